/** Calls with any numbers, on STORIES of any bytes: none may throw, and all answers are numbers that can be due. */
public final class StormTest {
    private static final Check CHECK = new Check();
    private static final int ROUNDS = 3000, CALLS = 156;
    private static long seed = 20261116;

    public static void main(String[] args) {
        for (int round = 0; round < ROUNDS; round++) {
            TaleMachine x = new TaleMachine();
            story(round).loadInto(x);
            for (int i = 0; i < CALLS; i++) {
                answer(x, call(x));
            }
        }
        CHECK.finish();
    }

    private static int any(int below) {
        seed = seed * 6364136223846793005L + 1442695040888963407L;
        return (int) ((seed >>> 33) % below);
    }

    private static int number() {
        switch (any(6)) {
            case 0:
                return any(12) - 6;
            case 1:
                return Integer.MIN_VALUE + any(3);
            case 2:
                return Integer.MAX_VALUE - any(3);
            case 3:
                return 65530 + any(12);
            default:
                return any(1100);
        }
    }

    /** A header that can be loaded most of the time, and all other bytes by chance. */
    private static Story story(int round) {
        Story story = new Story();
        int size = 64 + any(961);
        boolean zeros = any(3) == 0;
        for (int at = 64; at < 1024; at++) {
            story.at(at, zeros && any(2) == 0 ? 0 : any(256));
        }
        int mark = 64 + any(size - 63);
        story.word(14, mark).word(4, mark).word(6, any(size));
        for (int at = 8; at <= 24; at += at == 12 ? 12 : 2) {
            story.word(at, any(8) == 0 ? any(65536) : any(size));
        }
        if (round % 50 == 0) {
            story.at(any(30), any(256));
        }
        return story.cut(size);
    }

    private static int call(TaleMachine x) {
        switch (any(16)) {
            case 0:
                return x.line(number(), number());
            case 1:
                return x.save(any(5) - 1);
            case 2:
                return x.restore(any(5) - 1);
            case 3:
                return x.squeezed(any(5) - 1, number());
            case 4:
                return x.text(number(), any(2) == 0 ? -4 : number());
            case 5:
                return x.word(number(), any(2) == 0);
            case 6:
                return x.out(number());
            case 7:
                return x.peek(number());
            case 8:
                return x.count(any(12) - 1);
            case 9:
                return x.start();
            case 10:
                return any(40) == 0 ? x.end(number()) : x.state();
            default:
                return x.run(any(20) == 0 ? number() : any(30));
        }
    }

    private static void answer(TaleMachine x, int got) {
        if (got < -23 || got > 65535) {
            CHECK.due("an answer", got, 0);
        }
        int state = x.state();
        CHECK.so("the state is one of five", state >= 0 && state <= 4, true);
        if (state != 0) {
            CHECK.so("a HALT if it is HALTED, none else", x.count(5) != 0, state == 4);
        }
    }
}
