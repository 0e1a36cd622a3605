/** Promises 6, 8, 10, 11 and 12: state, start, count, peek, word. */
public final class StateTest {
    private static final Check CHECK = new Check();
    private static final int CODE = Story.CODE;
    private static final int G0 = Story.G0;

    public static void main(String[] args) {
        states();
        starting();
        counting();
        peeking();
        CHECK.finish();
    }

    private static void states() {
        TaleMachine x = new Story(0xB4, Story.QUIT).loaded();
        CHECK.due("1", x.state(), 1);
        x.run(1);
        CHECK.due("still 1", x.state(), 1);
        x.run(1);
        CHECK.due("2", x.state(), 2);
        CHECK.due("3", new Story(0xE4, 0x5F, 64, 64).run(1).state(), 3);
        CHECK.due("4", new Story(0xB9).run(1).state(), 4);
    }

    private static void starting() {
        Story story = new Story(0xBB, 0x14, 1, 2, G0, 0xE7, 0x7F, 100, 0, 0xE0, 0x3F, 1, 0x2C, 0)
                .at(Story.ROUTINE, 1, 0, 5, 0xB9);
        TaleMachine x = story.run(5);
        CHECK.halted("ahead", x, 4, Story.ROUTINE + 3);
        int draw = x.word(0, false);
        CHECK.due("FRAMES ahead", x.count(3), 2);
        CHECK.due("start of a HALTED one", x.start(), 1);
        CHECK.due("the state", x.state(), 1);
        CHECK.due("MEMORY", x.peek(65), 0);
        int[] want = {0, 0, 0, 1, CODE, 0, 0, 1024, Story.MARK, 0};
        for (int what = 0; what < want.length; what++) {
            CHECK.due("count " + what, x.count(what), want[what]);
        }
        CHECK.due("THE OUTPUT", x.out(0), -1);
        CHECK.due("THE STACK", x.word(0, false), -1);
        x.run(3);
        CHECK.due("THE DRAW is 1 again", x.word(0, false), draw);
        CHECK.due("start of one that can go on", x.start(), 1);
        CHECK.due("PC", x.count(4), CODE);
        TaleMachine y = new Story(Story.QUIT).run(1);
        CHECK.due("start of an ENDED one", y.start(), 1);
        CHECK.due("it can go on", y.run(1), 2);
        TaleMachine z = new Story(0xE4, 0x5F, 64, 64).run(1);
        CHECK.due("start of one that WAITS", z.start(), 1);
        CHECK.due("it WAITS no more", z.line(0, 0), -2);
    }

    private static void counting() {
        TaleMachine x = new Story(0xBB, 0xBB, 0xE8, 0x7F, 9, 0xE0, 0x3F, 1, 0x2C, 0)
                .at(Story.ROUTINE, 3, 0, 5, 0, 6, 0, 7, 0xE8, 0x7F, 8, 0x99, 0).loaded();
        x.feed(1, 2, 3, 4, 5, 6, 7, 8);
        x.run(300);
        int[] want = {2, 6, 2, 2, Story.ROUTINE + 10, 9, 3, 1024, Story.MARK, 32};
        for (int what = 0; what < want.length; what++) {
            CHECK.due("count " + what, x.count(what), want[what]);
        }
        CHECK.due("count -1", x.count(-1), -1);
        CHECK.due("count 10", x.count(10), -1);
        CHECK.due("WORD 0", x.word(0, false), 9);
        CHECK.due("WORD 1", x.word(1, false), 8);
        CHECK.due("WORD 2", x.word(2, false), -1);
        CHECK.due("LOCAL 1", x.word(1, true), 5);
        CHECK.due("LOCAL 3", x.word(3, true), 7);
        CHECK.due("LOCAL 4", x.word(4, true), -1);
        CHECK.due("LOCAL 0", x.word(0, true), -1);
        CHECK.due("LOCAL of the least number", x.word(Integer.MIN_VALUE, true), -1);
        CHECK.due("WORD of the most", x.word(Integer.MAX_VALUE, false), -1);
    }

    private static void peeking() {
        TaleMachine x = new Story(0xE2, 0x57, 64, 0, 200).at(1023, 77).run(1);
        CHECK.due("byte 0", x.peek(0), 3);
        CHECK.due("written", x.peek(64), 200);
        CHECK.due("the last one", x.peek(1023), 77);
        CHECK.due("L", x.peek(1024), -1);
        CHECK.due("-1", x.peek(-1), -1);
        CHECK.due("the least", x.peek(Integer.MIN_VALUE), -1);
        CHECK.due("the last of a shorter one", new Story().cut(800).loaded().peek(799), 0);
        CHECK.due("its L", new Story().cut(800).loaded().peek(800), -1);
        CHECK.due("L of it", new Story().cut(800).loaded().count(7), 800);
    }
}
