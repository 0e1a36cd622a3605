/** Promises 14 to 16: save, restore, squeezed. */
public final class SaveTest {
    private static final Check CHECK = new Check();
    private static final int CODE = Story.CODE;
    private static final int G0 = Story.G0;

    public static void main(String[] args) {
        refusals();
        restoring();
        restoringAWait();
        restoringFrames();
        restoringManyFrames();
        squeezing();
        longRuns();
        worstCase();
        CHECK.finish();
    }

    private static void refusals() {
        TaleMachine x = new Story(0xB4, Story.QUIT).loaded();
        CHECK.due("save(-1)", x.save(-1), -1);
        CHECK.due("save(4)", x.save(4), -1);
        CHECK.due("restore(-1)", x.restore(-1), -1);
        CHECK.due("restore(4)", x.restore(4), -1);
        CHECK.due("nothing saved", x.restore(3), -2);
        CHECK.due("nothing squeezed", x.squeezed(3, 0), -1);
        CHECK.due("save(3)", x.save(3), 0);
        CHECK.due("no byte of it", x.squeezed(3, 0), -1);
        CHECK.due("restore(3)", x.restore(3), 1);
        CHECK.due("restore(2)", x.restore(2), -2);
        x.run(2);
        CHECK.due("save of an ENDED one", x.save(0), -2);
        CHECK.due("save(4) of an ENDED one", x.save(4), -1);
        CHECK.due("nothing was saved", x.restore(0), -2);
        CHECK.due("restore of an ENDED one", x.restore(3), 1);
        CHECK.due("it can go on", x.state(), 1);
        TaleMachine y = new Story(0xB9).run(1);
        CHECK.due("save of a HALTED one", y.save(0), -2);
        CHECK.due("squeezed(-1)", x.squeezed(-1, 0), -1);
        CHECK.due("squeezed(4)", x.squeezed(4, 0), -1);
    }

    private static void restoring() {
        TaleMachine x = new Story(0x14, 1, 2, G0, 0xE8, 0x7F, 9, 0xBB, 0x14, 4, 5, G0, 0xE7, 0x7F, 100, 0, 0xB9, 0xB9,
                0xB9).run(2);
        CHECK.due("save", x.save(1), 3);
        x.run(3);
        int first = x.word(1, false);
        x.run(300);
        CHECK.halted("HALTED meanwhile", x, 4, CODE + 18);
        int begun = x.count(1);
        CHECK.due("restore", x.restore(1), 1);
        CHECK.due("MEMORY", x.peek(65), 3);
        CHECK.due("THE STACK", x.count(2), 1);
        CHECK.due("its WORD", x.word(0, false), 9);
        CHECK.due("PC", x.count(4), CODE + 7);
        CHECK.due("the state", x.state(), 1);
        CHECK.due("no HALT", x.count(5), 0);
        CHECK.due("THE OUTPUT stays", x.count(0), 1);
        CHECK.due("counts stay", x.count(1), begun);
        x.run(3);
        CHECK.due("THE DRAW stays", x.word(1, false) == first ? 1 : 0, 0);
        CHECK.due("MEMORY goes on", x.peek(65), 9);
        CHECK.due("another slot", x.save(2), 3);
        CHECK.due("start", x.start(), 1);
        CHECK.due("slots stay", x.restore(2), 1);
        CHECK.due("MEMORY of it", x.peek(65), 9);
        CHECK.due("WORDS of it", x.count(2), 2);
        CHECK.due("the first one", x.restore(1), 1);
        CHECK.due("MEMORY of that", x.peek(65), 3);
        CHECK.due("over it", x.save(2), 3);
        x.run(2);
        x.restore(2);
        CHECK.due("the newer one counts", x.peek(65), 3);
    }

    private static void restoringAWait() {
        // reads to 260 and 272, then to 300 and 320
        TaleMachine x = new Story(0xE4, 0x0F, 1, 4, 1, 16, 0xE4, 0x0F, 1, 44, 1, 64)
                .at(260, 8).at(272, 3).at(300, 8).at(320, 3).run(1);
        CHECK.due("save of one that WAITS", x.save(0), 0);
        CHECK.due("line", x.line('a' << 24, 0), 1);
        CHECK.due("save of one that goes", x.save(1) > 0 ? 1 : 0, 1);
        CHECK.due("it WAITS again", x.run(1), 3);
        CHECK.due("restore", x.restore(0), 1);
        CHECK.due("it WAITS", x.state(), 3);
        CHECK.due("PC", x.count(4), CODE + 6);
        CHECK.due("nothing is read yet", x.peek(261), 0);
        CHECK.due("line to where it was asked", x.line('b' << 24, 0), 1);
        CHECK.due("there", x.peek(261), 'b');
        CHECK.due("not there", x.peek(301), 0);
        CHECK.due("restore of what went", x.restore(1), 1);
        CHECK.due("it goes", x.state(), 1);
        CHECK.due("what was read", x.peek(261), 'a');
    }

    private static void restoringFrames() {
        TaleMachine x = new Story(0xE8, 0x7F, 1, 0xE0, 0x1F, 1, 0x2C, 44, G0)
                .at(Story.ROUTINE, 2, 0, 5, 0, 6, 0xE8, 0x7F, 7, 0x54, 1, 1, 1, 0xAB, 1).run(3);
        CHECK.due("save", x.save(0), 0);
        x.run(2);
        CHECK.due("gone back", x.count(3), 1);
        CHECK.due("the answer", x.peek(65), 45);
        CHECK.due("restore", x.restore(0), 1);
        CHECK.due("FRAMES", x.count(3), 2);
        CHECK.due("LOCALS", x.count(6), 2);
        CHECK.due("LOCAL 1", x.word(1, true), 44);
        CHECK.due("LOCAL 2", x.word(2, true), 6);
        CHECK.due("THE STACK", x.word(1, false), 7);
        CHECK.due("MEMORY", x.peek(65), 0);
        x.run(2);
        CHECK.due("it goes back again", x.count(4), CODE + 9);
        CHECK.due("to its variable", x.peek(65), 45);
        CHECK.due("with the caller's WORDS", x.count(2), 1);
    }

    private static void restoringManyFrames() {
        // each FRAME calls the next one with its LOCAL 1 and 1 more, and HALTS in the last one
        TaleMachine x = new Story(0xE0, 0x1F, 1, 0x2C, 1, G0)
                .at(Story.ROUTINE, 2, 0, 5, 0, 6, 0x54, 1, 1, 2, 0xE0, 0x2F, 1, 0x2C, 2, 0, 0xAB, 0).run(37);
        CHECK.due("FRAMES", x.count(3), 20);
        CHECK.due("LOCAL 1 of the newest", x.word(1, true), 19);
        CHECK.due("save", x.save(2), 0);
        x.run(1);
        CHECK.due("LOCAL 2 of the newest goes on", x.word(2, true), 20);
        CHECK.due("restore", x.restore(2), 1);
        CHECK.due("FRAMES again", x.count(3), 20);
        CHECK.due("LOCAL 1 of the newest again", x.word(1, true), 19);
        CHECK.due("LOCAL 2 of the newest again", x.word(2, true), 6);
        x.run(2);
        CHECK.halted("no FRAME more", x, 3, Story.ROUTINE + 9);
    }

    private static void squeezes(String what, TaleMachine x, int k, int... want) {
        CHECK.due(what + ": how many", x.save(k), want.length);
        for (int i = 0; i < want.length; i++) {
            CHECK.due(what + ": byte " + i, x.squeezed(k, i), want[i]);
        }
        CHECK.due(what + ": behind", x.squeezed(k, want.length), -1);
        CHECK.due(what + ": ahead", x.squeezed(k, -1), -1);
    }

    private static int[] storeb(int address, int value) {
        return Story.code(0xE2, 0x17, address >> 8, address & 255, 0, value);
    }

    private static void squeezing() {
        squeezes("nothing", new Story().loaded(), 0);
        TaleMachine x = new Story(Story.join(storeb(64, 0xF0), storeb(65, 1), storeb(67, 2), storeb(64, 0x0F)))
                .at(64, 0x0F).loaded();
        x.run(1);
        squeezes("one byte", x, 0, 0, 63, 0xFF);
        x.run(1);
        squeezes("two", x, 1, 0, 63, 0xFF, 1);
        x.run(1);
        squeezes("a lone zero between", x, 2, 0, 63, 0xFF, 1, 0, 0, 2);
        x.run(1);
        squeezes("one as it was", x, 3, 0, 64, 1, 0, 0, 2);
        CHECK.due("the first slot stays", x.squeezed(0, 2), 0xFF);
        TaleMachine y = new Story(storeb(0, 4)).run(1);
        squeezes("the first byte", y, 0, 7);
        TaleMachine z = new Story(storeb(Story.MARK - 1, 4)).run(1);
        squeezes("the last byte", z, 0, 0, 255, 0, 82, 4);
    }

    private static void longRuns() {
        squeezes("255 zeros", new Story(storeb(255, 9)).run(1), 0, 0, 254, 9);
        squeezes("256 zeros", new Story(storeb(256, 9)).run(1), 0, 0, 255, 9);
        squeezes("257 zeros", new Story(storeb(257, 9)).run(1), 0, 0, 255, 0, 0, 9);
        TaleMachine x = new Story(storeb(257, 9)).at(257, 1).run(1);
        squeezes("xor", x, 0, 0, 255, 0, 0, 8);
        x.start();
        CHECK.due("as it was loaded", x.peek(257), 1);
        CHECK.due("restore", x.restore(0), 1);
        CHECK.due("behind a long run", x.peek(257), 9);
        for (int at = 0; at < 1024; at += 3) {
            if (at != 257 && x.peek(at) != new Story(storeb(257, 9)).at(257, 1).byteAt(at)) {
                CHECK.due("byte " + at, x.peek(at), -100);
            }
        }
    }

    private static void worstCase() {
        // a loop stores 170 at 1 + GLOBAL 0, and adds 2 to that: every second byte changes
        TaleMachine x = new Story().word(14, 960).word(4, 960).word(6, 960).word(12, 950)
                .at(960, 0xE2, 0x67, 1, G0, 170, 0x54, G0, 2, G0, 0x8C, 255, 246).loaded();
        for (int i = 0; i < 10; i++) {
            x.run(141);
        }
        CHECK.due("470 times", x.peek(950) * 256 + x.peek(951), 940);
        CHECK.due("lone zeros", x.save(0), 3 * 470 + 2 + 2);
        CHECK.due("the first byte", x.squeezed(0, 0), 0);
        CHECK.due("no more zeros", x.squeezed(0, 1), 0);
        CHECK.due("a changed one", x.squeezed(0, 2), 170);
        CHECK.due("the run ahead of GLOBAL 0", x.squeezed(0, 1411), 9);
        CHECK.due("GLOBAL 0", x.squeezed(0, 1413), 940 & 255);
        x.start();
        CHECK.due("as it was loaded", x.peek(939), 0);
        x.restore(0);
        for (int at = 64; at < 940; at += 5) {
            CHECK.due("restored byte " + at, x.peek(at), at % 2 == 1 ? 170 : 0);
        }
        CHECK.due("behind them", x.peek(941), 0);
        CHECK.due("GLOBAL 0 is so again", x.peek(950) * 256 + x.peek(951), 940);
    }
}
