/** Promises 1 to 4: a new object, feed, end, load with its FAULTS. */
public final class TapeTest {
    private static final Check CHECK = new Check();

    public static void main(String[] args) {
        newObject();
        feed();
        end();
        faults();
        loading();
        CHECK.finish();
    }

    private static void newObject() {
        TaleMachine x = new TaleMachine();
        CHECK.due("BAD", TaleMachine.BAD, -1);
        CHECK.due("STATE", TaleMachine.STATE, -2);
        CHECK.due("FULL", TaleMachine.FULL, -3);
        CHECK.due("NONE", TaleMachine.NONE, -4);
        CHECK.due("new: state", x.state(), 0);
        CHECK.due("new: count(9)", x.count(9), 0);
        for (int what = 0; what <= 8; what++) {
            CHECK.due("new: count " + what, x.count(what), -2);
        }
        CHECK.due("new: count(10)", x.count(10), -1);
        CHECK.due("new: run", x.run(1), -2);
        CHECK.due("new: run too far", x.run(301), -1);
        CHECK.due("new: line", x.line(1, 1), -2);
        CHECK.due("new: start", x.start(), -2);
        CHECK.due("new: out", x.out(0), -1);
        CHECK.due("new: peek", x.peek(0), -1);
        CHECK.due("new: word", x.word(0, false), -1);
        CHECK.due("new: local", x.word(1, true), -1);
        CHECK.due("new: text", x.text(0, -4), -1);
        CHECK.due("new: save", x.save(0), -2);
        CHECK.due("new: save nowhere", x.save(4), -1);
        CHECK.due("new: restore", x.restore(0), -2);
        CHECK.due("new: restore from nowhere", x.restore(-1), -1);
        CHECK.due("new: squeezed", x.squeezed(0, 0), -1);
    }

    private static void feed() {
        TaleMachine x = new TaleMachine();
        for (int n = 1; n <= 32; n++) {
            CHECK.due("feed " + n, x.feed(n, 0, 0, 0, 0, 0, 0, 0), 32 * n);
        }
        CHECK.due("one feed too many", x.feed(0, 0, 0, 0, 0, 0, 0, 0), -3);
        CHECK.due("it changed nothing", x.count(9), 1024);
        CHECK.due("one byte less", x.end(993), 1024);
        CHECK.due("there are 31 left", x.feed(0, 0, 0, 0, 0, 0, 0, 0), -3);
        CHECK.due("another one", x.end(992), 993);
        CHECK.due("now it fits", x.feed(0, 0, 0, 0, 0, 0, 0, 0), 1024);

        Story story = new Story(Story.QUIT);
        for (int i = 64; i < 96; i++) {
            story.at(i, 255 - i);
        }
        TaleMachine y = story.loaded();
        for (int i = 64; i < 96; i++) {
            CHECK.due("the bytes in their order: " + i, y.peek(i), 255 - i);
        }
    }

    private static void end() {
        TaleMachine x = new TaleMachine();
        CHECK.due("end(0) of none", x.end(0), 0);
        CHECK.due("end(1) of none", x.end(1), -1);
        x.feed(1, 2, 3, 4, 5, 6, 7, 8);
        CHECK.due("end(-1)", x.end(-1), -1);
        CHECK.due("end(33)", x.end(33), -1);
        CHECK.due("nothing changed", x.count(9), 32);
        CHECK.due("end(32)", x.end(32), 32);
        CHECK.due("end(5)", x.end(5), 32);
        CHECK.due("count(9)", x.count(9), 5);
    }

    private static void fault(String what, Story story, int fault) {
        TaleMachine x = new TaleMachine();
        CHECK.due(what, story.loadInto(x), fault == 0 ? 0 : -10 - fault);
        CHECK.due(what + ": THE TAPE", x.count(9), 0);
        CHECK.due(what + ": the state", x.state(), fault == 0 ? 1 : 0);
    }

    private static void faults() {
        fault("no fault", new Story(Story.QUIT), 0);
        fault("63 bytes", new Story(Story.QUIT).cut(63), 1);
        fault("64 bytes", new Story(Story.QUIT).word(14, 64).word(4, 64).word(6, 0).cut(64), 0);
        fault("version 2", new Story().at(0, 2), 2);
        fault("version 5 ahead of THE MARK", new Story().at(0, 5).word(14, 0), 2);
        fault("THE MARK 63", new Story().word(14, 63), 3);
        fault("THE MARK 64", new Story().word(14, 64), 0);
        fault("THE MARK L", new Story().word(14, 1024).word(4, 1024), 0);
        fault("THE MARK above L", new Story().word(14, 1025).word(4, 1025), 3);
        fault("high below THE MARK", new Story().word(4, Story.MARK - 1), 4);
        fault("high at L", new Story().word(4, 1024), 0);
        fault("high above L", new Story().word(4, 1025), 4);
        fault("PC at L - 1", new Story().word(6, 1023), 0);
        fault("PC at L", new Story().word(6, 1024), 5);
        fault("length wrong", new Story().word(26, 511), 6);
        fault("length 32768 is twice 65536", new Story().word(26, 32768), 6);
        fault("odd L, no length", new Story().cut(1023), 0);
        Story summed = new Story(1, 2, 255, 255).word(26, 512);
        fault("sum wrong", summed.word(28, summed.sum() + 1), 7);
        fault("sum right", summed.word(28, summed.sum()), 0);
        fault("sum wrong without length", summed.word(26, 0).word(28, 1), 0);
    }

    private static void loading() {
        Story story = new Story(0xE8, 0x7F, 7, Story.QUIT);
        TaleMachine x = story.loaded();
        CHECK.due("PC", x.count(4), Story.CODE);
        CHECK.due("L", x.count(7), 1024);
        CHECK.due("THE MARK", x.count(8), Story.MARK);
        x.run(1);
        CHECK.due("save", x.save(0), 0);
        CHECK.due("load again", story.loadInto(x), 0);
        CHECK.due("slots are empty", x.restore(0), -2);
        CHECK.due("at the beginning: THE STACK", x.count(2), 0);
        CHECK.due("at the beginning: ORDERS", x.count(1), 0);
        x.run(2);
        CHECK.due("ended", x.state(), 2);
        CHECK.due("a load that fails", x.load(), -11);
        CHECK.due("no STORY then", x.state(), 0);
        CHECK.due("no start then", x.start(), -2);
        CHECK.due("no byte then", x.peek(0), -1);
        CHECK.due("no restore then", x.restore(0), -2);
        CHECK.due("a STORY again", story.loadInto(x), 0);
        CHECK.due("it can go on", x.state(), 1);
    }
}
