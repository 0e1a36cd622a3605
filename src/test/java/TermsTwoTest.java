/** "Terms" 2, sentence by sentence: VARIABLES, and the form of an ORDER. */
public final class TermsTwoTest {
    private static final Check CHECK = new Check();
    private static final int CODE = Story.CODE, ROUTINE = Story.ROUTINE;
    private static final int G0 = Story.G0, G1 = Story.G1;

    public static void main(String[] args) {
        theStack();
        fullStack();
        noneOfItsOwn();
        locals();
        globals();
        twentyFrames();
        firstFrame();
        namedTop();
        namedTopOfNone();
        pulledToTheTop();
        namedModulo();
        typesByte();
        twoOrVar();
        oneOrNone();
        below128();
        operands();
        readAsTheyCome();
        answerThere();
        answerOfCall();
        bothBytesFirst();
        nothingIsDone();
        offsets();
        frameReturns();
        nextOrder();
        operandsThatLack();
        notTold();
        CHECK.finish();
    }

    /** Runs, so many ORDERS at most, in steps that run() takes. */
    private static TaleMachine run(Story story, int orders) {
        TaleMachine x = story.loaded();
        for (int left = orders; left > 0 && x.state() == 1; left -= 300) {
            x.run(Math.min(left, 300));
        }
        return x;
    }

    private static void theStack() {
        CHECK.says("0 THE STACK (read: its top WORD goes; written: one comes ..");
        TaleMachine x = Story.of(Orders.push(7), Orders.push(9), Story.code(0x54, 0, 1, 0), Story.code(0x54, 0, 0, G0)).run(3);
        CHECK.due("one went, one came", x.count(2), 2);
        CHECK.due("the top is read", x.word(1, false), 10);
        CHECK.due("the one below stays", x.word(0, false), 7);
        x.run(1);
        CHECK.due("it went", x.count(2), 1);
        CHECK.due("it is what was read", Story.wordOf(x, 64), 10);
    }

    private static void fullStack() {
        CHECK.says("120 in all FRAMES; more: HALT 3");
        TaleMachine x = run(Story.of(Orders.pushes(120, G0), Orders.push(6)), 359);
        CHECK.due("120 WORDS", x.count(2), 120);
        CHECK.due("it can go on", x.state(), 1);
        x.run(1);
        CHECK.halted("push", x, 3, CODE + 10);
        CHECK.due("still 120", x.count(2), 120);
        TaleMachine y = run(Story.of(Orders.pushes(120, G0), Orders.two(Orders.ADD, 1, 2, 0)), 360);
        CHECK.halted("an answer", y, 3, CODE + 10);
        TaleMachine z = run(Story.of(Orders.pushes(100, G0), Orders.call(ROUTINE, 0))
                .at(ROUTINE, Story.join(Story.code(0), Orders.pushes(20, G1), Orders.push(6))), 359);
        CHECK.due("120 WORDS of two FRAMES", z.count(2), 120);
        z.run(1);
        CHECK.halted("push in the second one", z, 3, ROUTINE + 11);
        TaleMachine v = run(Story.of(Orders.pushes(120, G0), Story.code(0x54, 0, 1, 0)), 360);
        CHECK.due("one goes, one comes", v.state(), 1);
        CHECK.due("the 120th", v.word(119, false), 6);
    }

    private static void noneOfItsOwn() {
        CHECK.says("a FRAME with none of its own: HALT 4");
        CHECK.halted("of no WORDS at all", new Story(0x54, 0, 1, G0).run(1), 4, CODE);
        Story story = Story.of(Orders.push(7), Orders.call(ROUTINE, 0));
        TaleMachine x = story.at(ROUTINE, 0, 0x54, 0, 1, G0).run(3);
        CHECK.halted("of the caller's WORDS", x, 4, ROUTINE + 1);
        CHECK.due("they stay", x.count(2), 1);
        CHECK.halted("pop", story.at(ROUTINE, 0, 0xB9).run(3), 4, ROUTINE + 1);
        CHECK.halted("ret_popped", story.at(ROUTINE, 0, 0xB8).run(3), 4, ROUTINE + 1);
        CHECK.halted("pull", story.at(ROUTINE, 0, 0xE9, 0x7F, G0).run(3), 4, ROUTINE + 1);
        TaleMachine y = Story.of(Orders.push(7), Orders.call(ROUTINE, G0), Story.code(0x54, 0, 1, G1)).at(ROUTINE, 0, 0xB0).run(4);
        CHECK.due("its own again, behind the call", Story.wordOf(y, 66), 8);
    }

    /** A call of a routine with so many LOCALS, 101 on, which begins with that ORDER. */
    private static Story inRoutine(int locals, int... order) {
        Story story = Story.of(Orders.call(ROUTINE, 0)).at(ROUTINE, locals);
        for (int i = 1; i <= locals; i++) {
            story.word(ROUTINE + 2 * i - 1, 100 + i);
        }
        return story.at(ROUTINE + 1 + 2 * locals, order);
    }

    private static void locals() {
        CHECK.says("1 .. 15 LOCALS of the FRAME (not there: HALT 5)");
        for (int many = 0; many <= 15; many++) {
            int at = ROUTINE + 1 + 2 * many;
            if (many > 0) {
                CHECK.due("the last of " + many, Story.wordOf(inRoutine(many, 0x54, many, 1, G0).run(2), 64), 101 + many);
                CHECK.due("it is written", inRoutine(many, 0x14, 200, 200, many).run(2).word(many, true), 400);
            }
            if (many < 15) {
                CHECK.halted("one more than " + many, inRoutine(many, 0x54, many + 1, 1, G0).run(2), 5, at);
                CHECK.halted("it is not written", inRoutine(many, 0x14, 1, 1, many + 1).run(2), 5, at);
                CHECK.halted("15 of " + many, inRoutine(many, 0x54, 15, 1, G0).run(2), 5, at);
            }
        }
        CHECK.due("LOCAL 1 of 15", Story.wordOf(inRoutine(15, 0x54, 1, 1, G0).run(2), 64), 102);
        Story story = inRoutine(15, Orders.call(660, 1, 44)).at(660, 1, 0, 0, 0xB0);
        TaleMachine x = story.run(3);
        CHECK.due("LOCALS of another FRAME", x.word(15, true), 115);
        CHECK.due("the answer of that", x.word(1, true), 1);
        CHECK.due("LOCAL 2 stays", x.word(2, true), 102);
    }

    private static void globals() {
        CHECK.says("16 .. 255 the WORDS from GLOBALS on");
        int last = Story.GLOBALS + 2 * (255 - 16);
        Story story = new Story().mark(700).word(Story.GLOBALS, 1234).word(last, 5678);
        CHECK.due("VARIABLE 16", story.at(CODE, 0x54, 16, 0, 0).run(1).word(0, false), 1234);
        CHECK.due("VARIABLE 255", story.at(CODE, 0x54, 255, 0, 0).run(1).word(0, false), 5678);
        CHECK.due("16 is written", Story.wordOf(story.at(CODE, 0x14, 200, 201, 16).run(1), Story.GLOBALS), 401);
        CHECK.due("255 is written", Story.wordOf(story.at(CODE, 0x14, 200, 201, 255).run(1), last), 401);
        CHECK.halted("a WORD over THE MARK", new Story(0x14, 1, 1, 255).mark(last + 1).run(1), 2, CODE);
        CHECK.halted("a WORD at L", new Story(0x54, 16, 1, 0).word(12, 1024).run(1), 1, CODE);
    }

    private static void twentyFrames() {
        CHECK.says("FRAMES: 20 at most");
        Story story = Story.of(Orders.call(ROUTINE, 0)).at(ROUTINE, Story.join(Story.code(0), Orders.call(ROUTINE, 0)));
        TaleMachine x = story.run(19);
        CHECK.due("20", x.count(3), 20);
        CHECK.due("it can go on", x.state(), 1);
        x.run(1);
        CHECK.halted("one more", x, 3, ROUTINE + 1);
        CHECK.due("still 20", x.count(3), 20);
    }

    private static void firstFrame() {
        CHECK.says("the first one without LOCALS");
        TaleMachine x = new Story(0x54, 1, 1, 0).loaded();
        CHECK.due("FRAMES", x.count(3), 1);
        CHECK.due("LOCALS", x.count(6), 0);
        CHECK.due("LOCAL 1", x.word(1, true), -1);
        x.run(1);
        CHECK.halted("LOCAL 1 is read", x, 5, CODE);
    }

    /** The ORDERS that name a VARIABLE by an operand; pull is another matter, as it reads THE STACK first. */
    private static int[][] naming(int name) {
        return new int[][] {
            Orders.one(Orders.INC, name), Orders.one(Orders.DEC, name), Orders.two(Orders.INC_CHK, name, 0, 0xC2),
            Orders.two(Orders.DEC_CHK, name, 0, 0xC2), Orders.two(Orders.STORE, name, 44), Orders.one(Orders.LOAD, name, G1)
        };
    }

    private static void namedTop() {
        CHECK.says("of 0 the top WORD is read, and written in its place");
        int[] want = {11, 9, 11, 9, 44, 10};
        for (int i = 0; i < want.length; i++) {
            TaleMachine x = Story.of(Orders.push(7), Orders.push(10), naming(0)[i]).run(3);
            CHECK.due("ORDER " + i + ": how many", x.count(2), 2);
            CHECK.due("ORDER " + i + ": the top", x.word(1, false), want[i]);
            CHECK.due("ORDER " + i + ": the one below", x.word(0, false), 7);
        }
        CHECK.due("load answers the top", Story.wordOf(Story.of(Orders.push(10), naming(0)[5]).run(2), 66), 10);
        TaleMachine y = Story.of(Orders.push(10), Orders.one(Orders.LOAD, 0, 0)).run(2);
        CHECK.due("load 0 to 0", y.count(2), 2);
        CHECK.due("the same WORD twice", y.word(0, false) * 100 + y.word(1, false), 1010);
    }

    private static void namedTopOfNone() {
        CHECK.says("a FRAME with none of its own: HALT 4 (the VARIABLE that is named by an operand)");
        for (int i = 0; i < naming(0).length; i++) {
            CHECK.halted("ORDER " + i, Story.of(naming(0)[i]).run(1), 4, CODE);
            Story story = Story.of(Orders.push(7), Orders.call(ROUTINE, 0)).at(ROUTINE, Story.join(Story.code(0), naming(0)[i]));
            TaleMachine x = story.run(3);
            CHECK.halted("ORDER " + i + " with the caller's WORDS", x, 4, ROUTINE + 1);
            CHECK.due("ORDER " + i + ": they stay", x.word(0, false), 7);
            CHECK.halted("ORDER " + i + " of LOCAL 1", Story.of(naming(1)[i]).run(1), 5, CODE);
            CHECK.halted("ORDER " + i + " of LOCAL 15", Story.of(naming(15)[i]).run(1), 5, CODE);
        }
    }

    private static void pulledToTheTop() {
        CHECK.says("pull 0: the top goes, the next one becomes it");
        TaleMachine x = Story.of(Orders.push(1), Orders.push(2), Orders.push(3), Orders.var(Orders.PULL, 0)).run(4);
        CHECK.due("one went", x.count(2), 2);
        CHECK.due("the next one", x.word(1, false), 3);
        CHECK.due("the one below", x.word(0, false), 1);
        CHECK.halted("no next one", Story.of(Orders.push(1), Orders.var(Orders.PULL, 0)).run(2), 4, CODE + 4);
        CHECK.halted("no top", Story.of(Orders.var(Orders.PULL, 0)).run(1), 4, CODE);
        TaleMachine y = Story.of(Orders.push(1), Orders.call(ROUTINE, 0))
                .at(ROUTINE, Story.join(Story.code(0), Orders.push(2), Orders.var(Orders.PULL, 0))).run(4);
        CHECK.halted("the next one is the caller's", y, 4, ROUTINE + 5);
        CHECK.due("it stays", y.word(0, false), 1);
    }

    private static void namedModulo() {
        CHECK.says("Above 255: modulo 256");
        int[] want = {11, 9, 11, 9, 44, 10};
        for (int i = 0; i < want.length; i++) {
            TaleMachine x = Story.of(naming(256 + G0)[i]).global(0, 10).run(1);
            CHECK.due("ORDER " + i + " of 272", Story.wordOf(x, 64), want[i]);
            TaleMachine y = Story.of(Orders.push(10), naming(256)[i]).run(2);
            CHECK.due("ORDER " + i + " of 256", y.word(0, false), want[i]);
            CHECK.halted("ORDER " + i + " of 257", Story.of(naming(257)[i]).run(1), 5, CODE);
        }
        TaleMachine z = Story.of(Orders.push(7), Orders.var(Orders.PULL, 65280 + G0)).run(2);
        CHECK.due("pull", Story.wordOf(z, 64), 7);
        TaleMachine v = Story.of(Orders.push(1), Orders.push(2), Orders.var(Orders.PULL, 256)).run(3);
        CHECK.due("pull 256", v.word(0, false), 2);
        CHECK.due("255 stays 255", Story.wordOf(Story.of(naming(255)[0]).mark(700).run(1), 542), 1);
    }

    private static void typesByte() {
        CHECK.says("a byte of four TYPES (two bits each, the highest first; behind the first 3 none counts)");
        TaleMachine x = new Story(0xE0, 0x1B, 1, 0x2C, 7, G0, G1).global(0, 8).at(ROUTINE, 3, 0, 1, 0, 2, 0, 3).run(1);
        CHECK.due("the second operand", x.word(1, true), 7);
        CHECK.due("the third operand", x.word(2, true), 8);
        CHECK.due("no fourth one", x.word(3, true), 3);
        TaleMachine four = new Story(0xE0, 0x15, 1, 0x2C, 7, 8, 9, G1).at(ROUTINE, 3, 0, 1, 0, 2, 0, 3).run(1);
        CHECK.due("a fourth one", four.word(3, true), 9);
        CHECK.halted("3 first", new Story(0xE8, 0xD5, 1, 2, 3).run(1), 6, CODE);
        TaleMachine y = new Story(0xE8, 0x75, 5, 0xE8, 0x7F, 6).run(2);
        CHECK.due("3 behind the first one", y.word(1, false), 6);
        CHECK.halted("3, 3, 1, 1", new Story(0xD4, 0x75, 1, 2, 3, 0).run(1), 6, CODE);
    }

    private static void twoOrVar() {
        CHECK.says("OPS of TWO (o mod 32, o below 224), VAR (else)");
        CHECK.due("212: add", new Story(212, 0x5F, 3, 4, 0).run(1).word(0, false), 7);
        CHECK.due("193: je", new Story(193, 0x5F, 3, 3, 0xC5).run(1).count(4), CODE + 8);
        CHECK.halted("192: TWO 0", new Story(192, 0x5F, 3, 3, 0xC5).run(1), 6, CODE);
        CHECK.halted("192 has TYPES", Story.atEnd(192, 0xFF).run(1), 6, 1022);
        CHECK.halted("223: TWO 31", new Story(223, 0x5F, 3, 3, 0xC5).run(1), 6, CODE);
        CHECK.due("224: call", new Story(224, 0x3F, 1, 0x2C, 0).run(1).count(3), 2);
        CHECK.due("232: push", new Story(232, 0x7F, 9).run(1).word(0, false), 9);
        CHECK.halted("255: VAR 31", new Story(255, 0x7F, 9).run(1), 6, CODE);
    }

    private static void oneOrNone() {
        CHECK.says("128 .. 191: one TYPE in bits 4, 5: 3: OPS of NONE (o mod 16), else ONE");
        CHECK.due("128: jz of a WORD", new Story(128, 0, 0, 0xC5).run(1).count(4), CODE + 7);
        CHECK.due("143: not of a WORD", new Story(143, 1, 2, 0).run(1).word(0, false), 65535 - 258);
        CHECK.due("144: jz of a byte", new Story(144, 0, 0xC5).run(1).count(4), CODE + 6);
        CHECK.due("159: not of a byte", new Story(159, 2, 0).run(1).word(0, false), 65535 - 2);
        CHECK.due("160: jz of a VARIABLE", new Story(160, G0, 0xC5).run(1).count(4), CODE + 6);
        CHECK.due("175: not of a VARIABLE", new Story(175, G0, 0).global(0, 9).run(1).word(0, false), 65535 - 9);
        CHECK.halted("176: rtrue", new Story(176).run(1), 4, CODE);
        CHECK.due("187: a new line", new Story(187).run(1).count(0), 1);
        CHECK.halted("191: NONE 15", new Story(191).run(1), 6, CODE);
    }

    private static void below128() {
        CHECK.says("Below 128: OPS of TWO (o mod 32), TYPES 2 or 1 by bit 6, then bit 5");
        Story story = new Story().global(0, 1000).global(1, 50);
        CHECK.due("20", story.at(CODE, 20, G0, G1, 0).run(1).word(0, false), G0 + G1);
        CHECK.due("52", story.at(CODE, 52, G0, G1, 0).run(1).word(0, false), G0 + 50);
        CHECK.due("84", story.at(CODE, 84, G0, G1, 0).run(1).word(0, false), 1000 + G1);
        CHECK.due("116", story.at(CODE, 116, G0, G1, 0).run(1).word(0, false), 1050);
        CHECK.halted("0: TWO 0", new Story(0, 1, 1).run(1), 6, CODE);
        TaleMachine x = Story.of(Orders.push(1), Orders.push(2), Story.code(127, 0, 0, 0)).run(3);
        CHECK.halted("127: TWO 31", x, 6, CODE + 8);
        CHECK.due("both its operands went", x.count(2), 0);
    }

    private static void operands() {
        CHECK.says("OPERANDS by TYPES: 0 a WORD, 1 a byte, 2 a VARIABLE");
        CHECK.due("the least WORD", new Story(0xE8, 0x3F, 0, 0).run(1).word(0, false), 0);
        CHECK.due("the most", new Story(0xE8, 0x3F, 255, 255).run(1).word(0, false), 65535);
        CHECK.due("the least byte", new Story(0xE8, 0x7F, 0).run(1).word(0, false), 0);
        CHECK.due("the most", new Story(0xE8, 0x7F, 255).run(1).word(0, false), 255);
        CHECK.due("a VARIABLE", new Story(0xE8, 0xBF, G0).global(0, 65535).run(1).word(0, false), 65535);
        CHECK.halted("half a WORD", Story.atEnd(0xE8, 0x3F, 1).run(1), 1, 1021);
        CHECK.halted("no byte", Story.atEnd(0xE8, 0x7F).run(1), 1, 1022);
        CHECK.halted("no VARIABLE", Story.atEnd(0xE8, 0xBF).run(1), 1, 1022);
        CHECK.halted("no TYPES", Story.atEnd(0xE8).run(1), 1, 1023);
    }

    private static void readAsTheyCome() {
        CHECK.says("(read as they come)");
        TaleMachine x = Story.of(Orders.push(3), Orders.push(10), Story.code(0x75, 0, 0, 0)).run(3);
        CHECK.due("the top is the first one", x.word(0, false), 7);
        TaleMachine y = Story.of(Orders.push(3), Story.code(0x8C, 0, 1022 - CODE - 7 + 2)).at(1022, 0x75, 0).run(3);
        CHECK.halted("the second one is not in MEMORY", y, 1, 1022);
        CHECK.due("the first one went", y.count(2), 0);
    }

    private static void answerThere() {
        CHECK.says("a byte s (read when the answer is there ..");
        CHECK.halted("div by 0", Story.atEnd(Orders.two(Orders.DIV, 1, 0)).run(1), 7, 1018);
        CHECK.halted("div by 1", Story.atEnd(Orders.two(Orders.DIV, 1, 1)).run(1), 1, 1018);
        CHECK.halted("load 0 of none", Story.atEnd(Orders.one(Orders.LOAD, 0)).run(1), 4, 1021);
        CHECK.halted("get_parent of 0", Story.atEnd(Orders.one(Orders.GET_PARENT, 0)).run(1), 9, 1021);
        // the second random draws, though it has no s; the first one, again, is the third draw then
        TaleMachine x = Story.atEnd(0xE7, 0x7F, 100, 0, 0xE7, 0x7F, 100).loaded();
        x.save(0);
        x.run(2);
        CHECK.halted("random", x, 1, 1021);
        x.restore(0);
        x.run(1);
        int draw = 1;
        for (int i = 0; i < 3; i++) {
            draw = draw * 1103515245 + 12345;
        }
        CHECK.due("it has drawn", x.word(0, false), (draw >>> 16 & 32767) % 100 + 1);
    }

    private static void answerOfCall() {
        CHECK.says("of call ahead of all");
        CHECK.halted("16 LOCALS", Story.atEnd(0xE0, 0x3F, 1, 0x2C).at(ROUTINE, 16).run(1), 1, 1020);
        CHECK.halted("0", Story.atEnd(0xE0, 0x3F, 0, 0).run(1), 1, 1020);
        // the routine's LOCAL 1 is named by s, which is read ahead of the call and meant in the caller's FRAME
        CHECK.halted("s is a VARIABLE of the caller", Story.of(Orders.call(ROUTINE, 1)).at(ROUTINE, 1, 0, 0, 0xB0).run(2),
                5, ROUTINE + 3);
    }

    private static void bothBytesFirst() {
        CHECK.says("a BRANCH: byte b (of the long form both bytes are read first)");
        CHECK.halted("it is so", Story.atEnd(0x90, 0, 0x80).run(1), 1, 1021);
        CHECK.halted("it is not so", Story.atEnd(0x90, 1, 0x80).run(1), 1, 1021);
        CHECK.due("the short form, not so", Story.atEnd(0x90, 1, 0xC0).run(1).count(4), 1024);
        CHECK.halted("no byte", Story.atEnd(0x90, 1).run(1), 1, 1022);
        TaleMachine x = Story.atEnd(0x92, 1, 0).object(1, 0, 0, 7, 0).run(1);
        CHECK.halted("get_child without a BRANCH", x, 1, 1021);
        CHECK.due("its answer is written ahead of it", x.word(0, false), 7);
    }

    private static int pcAfter(int... order) {
        return new Story(order).run(1).count(4);
    }

    private static void nothingIsDone() {
        CHECK.says("if bit 7 of it is not whether it is so (1 yes), nothing is done");
        CHECK.due("1, so", pcAfter(0x90, 0, 0xC9), CODE + 3 + 7);
        CHECK.due("1, not so", pcAfter(0x90, 1, 0xC9), CODE + 3);
        CHECK.due("0, so", pcAfter(0x90, 0, 0x49), CODE + 3);
        CHECK.due("0, not so", pcAfter(0x90, 1, 0x49), CODE + 3 + 7);
        CHECK.due("1, not so, long", pcAfter(0x90, 1, 0x81, 0), CODE + 4);
        CHECK.due("0, so, long", pcAfter(0x90, 0, 0x01, 0), CODE + 4);
        CHECK.due("0, not so, long", pcAfter(0x90, 1, 0x01, 0), CODE + 4 + 254);
        CHECK.due("1, not so, offset 0", pcAfter(0x90, 1, 0xC0), CODE + 3);
        CHECK.due("verify with 0", pcAfter(0xBD, 0x49), CODE + 2);
    }

    private static void offsets() {
        CHECK.says("bit 6: the lowest 6 bits; else 14 bits with the next byte, SIGNED by their highest");
        CHECK.due("short: 63", pcAfter(0x90, 0, 0xFF), CODE + 3 + 61);
        CHECK.due("short: 32", pcAfter(0x90, 0, 0xE0), CODE + 3 + 30);
        CHECK.due("long: 255", pcAfter(0x90, 0, 0x80, 255), CODE + 4 + 253);
        CHECK.due("long: 8191", pcAfter(0x90, 0, 0x9F, 255), CODE + 4 + 8189);
        CHECK.due("long: -8192", pcAfter(0x90, 0, 0xA0, 0), CODE + 4 - 8194 + 65536);
        CHECK.due("long: -1", pcAfter(0x90, 0, 0xBF, 255), CODE + 4 - 3);
    }

    private static int returned(int... order) {
        TaleMachine x = Story.of(Orders.call(ROUTINE, G0)).global(0, 9).at(ROUTINE, 0).at(ROUTINE + 1, order).run(2);
        CHECK.due("one FRAME then", x.count(3), 1);
        CHECK.due("PC behind the call", x.count(4), CODE + 5);
        return Story.wordOf(x, 64);
    }

    private static void frameReturns() {
        CHECK.says("0, 1: the FRAME returns that");
        CHECK.due("short 0", returned(0x90, 0, 0xC0), 0);
        CHECK.due("short 1", returned(0x90, 0, 0xC1), 1);
        CHECK.due("long 0", returned(0x90, 0, 0x80, 0), 0);
        CHECK.due("long 1", returned(0x90, 0, 0x80, 1), 1);
        CHECK.due("0 if it is not so", returned(0x90, 1, 0x40), 0);
        CHECK.halted("0 in the first FRAME", new Story(0x90, 0, 0xC0).run(1), 4, CODE);
        CHECK.halted("1 in the first FRAME", new Story(0x90, 0, 0x80, 1).run(1), 4, CODE);
    }

    private static void nextOrder() {
        CHECK.says("else PC becomes that of the next ORDER, with the offset, less 2");
        CHECK.due("short 2", pcAfter(0x90, 0, 0xC2), CODE + 3);
        CHECK.due("short 3", pcAfter(0x90, 0, 0xC3), CODE + 4);
        CHECK.due("long 2", pcAfter(0x90, 0, 0x80, 2), CODE + 4);
        CHECK.due("long 256", pcAfter(0x90, 0, 0x81, 0), CODE + 4 + 254);
        CHECK.due("back to itself", pcAfter(0x90, 0, 0xBF, 0xFE), CODE);
        TaleMachine x = Story.atEnd(0x90, 0, 0xC2).run(1);
        CHECK.due("L", x.count(4), 1024);
        CHECK.due("it can go on", x.state(), 1);
    }

    private static void operandsThatLack() {
        CHECK.says("OPERANDS that lack: HALT 6");
        int[] needed = {1, 3, 3, 3, 2, 1, 1, 1, 1, 1};
        for (int op = 0; op < needed.length; op++) {
            for (int given = 0; given < needed[op]; given++) {
                TaleMachine x = Story.of(Orders.push(1), Orders.var(op, new int[given]), Story.code(G0)).run(2);
                CHECK.halted("VAR " + op + " with " + given, x, 6, CODE + 4);
            }
            TaleMachine y = Story.of(Orders.var(op, new int[needed[op]]), Story.code(G0)).run(1);
            CHECK.so("VAR " + op + " with all of them", y.count(5) == 6, false);
        }
        for (int op = 1; op <= 24; op++) {
            CHECK.halted("TWO " + op + " with none", new Story(0xC0 | op, 0xFF, 0xC5, 0xC5).run(1), 6, CODE);
            CHECK.halted("TWO " + op + " with one", new Story(0xC0 | op, 0x7F, 1, 0xC5, 0xC5).run(1), 6, CODE);
        }
    }

    private static void notTold() {
        CHECK.says("an OP that is not told: HALT 6");
        for (int op : new int[] {0, 25, 26, 27, 28, 29, 30, 31}) {
            for (int form = 0; form < 128; form += 32) {
                TaleMachine x = new Story(form | op, G0, G1, 0xC5).run(1);
                CHECK.halted("TWO " + op + " as " + (form | op), x, 6, CODE);
            }
            CHECK.halted("TWO " + op + " with TYPES", new Story(0xC0 | op, 0x5F, 1, 1, 0xC5).run(1), 6, CODE);
        }
        for (int form = 0x80; form < 0xB0; form += 16) {
            CHECK.halted("ONE 8 as " + form, new Story(form | 8, G0, G0).run(1), 6, CODE);
        }
        for (int op : new int[] {5, 6, 12, 14, 15}) {
            CHECK.halted("NONE " + op, new Story(0xB0 | op, 0xC5).run(1), 6, CODE);
        }
        for (int op = 10; op <= 31; op++) {
            CHECK.halted("VAR " + op, new Story(0xE0 | op, 0x55, 1, 1, 1, 1).run(1), 6, CODE);
        }
    }
}
