/** Promise 5: run, with VARIABLES, FRAMES and the ORDERS that need no OBJECTS and no TEXT. */
public final class OrdersTest {
    private static final Check CHECK = new Check();
    private static final int CODE = Story.CODE;
    private static final int G0 = Story.G0, G1 = Story.G1;
    private static final int PUSH = 0xE8, PULL = 0xE9, ONE_BYTE = 0x7F;
    private static final int RETURN_ON_TRUE = 0xC1;

    public static void main(String[] args) {
        fuel();
        arithmetic();
        conditions();
        branchForms();
        operandForms();
        lackingOperands();
        stack();
        locals();
        globals();
        namedVariables();
        calls();
        returns();
        jumps();
        memoryOrders();
        randomOrder();
        shortOrders();
        CHECK.finish();
    }

    private static void fuel() {
        TaleMachine x = new Story(Story.repeat(200, 0xB4)).loaded();
        CHECK.due("run(-1)", x.run(-1), -1);
        CHECK.due("run(301)", x.run(301), -1);
        CHECK.due("run(0)", x.run(0), 1);
        CHECK.due("no ORDER begun", x.count(1), 0);
        CHECK.due("run(3)", x.run(3), 1);
        CHECK.due("ORDERS begun", x.count(1), 3);
        CHECK.due("PC", x.count(4), CODE + 3);
        CHECK.due("run(300)", x.run(300), 4);
        CHECK.halted("behind the last of the known ORDERS", x, 6, CODE + 200);
        CHECK.due("the ORDER that HALTS is begun, too", x.count(1), 201);
        CHECK.due("run of a HALTED one", x.run(1), -2);
        CHECK.due("run(301) of a HALTED one", x.run(301), -1);
        TaleMachine y = new Story(Story.QUIT, 0xB4).run(300);
        CHECK.due("quit", y.state(), 2);
        CHECK.due("PC is that of the next ORDER", y.count(4), CODE + 1);
        CHECK.due("run of an ENDED one", y.run(1), -2);
        CHECK.halted("PC runs out of MEMORY", new Story().word(6, 1023).at(1023, 0xB4).run(2), 1, 1024);
    }

    /** The answer of an OP of TWO with two WORDS. */
    private static int two(int op, int a, int b) {
        TaleMachine x = new Story(0xC0 | op, 0x0F, a >> 8, a & 255, b >> 8, b & 255, 0).run(1);
        return x.state() == 4 ? -10 - x.count(5) : x.word(0, false);
    }

    private static void arithmetic() {
        CHECK.due("or", two(8, 0x1234, 0x00FF), 0x12FF);
        CHECK.due("and", two(9, 0x1234, 0x00FF), 0x34);
        CHECK.due("add", two(20, 7, 9), 16);
        CHECK.due("add over", two(20, 65535, 2), 1);
        CHECK.due("sub", two(21, 3, 5), 65534);
        CHECK.due("mul", two(22, 300, 300), 90000 - 65536);
        CHECK.due("mul signed", two(22, 65535, 65535), 1);
        CHECK.due("div", two(23, 17, 5), 3);
        CHECK.due("div toward 0", two(23, 65536 - 17, 5), 65536 - 3);
        CHECK.due("div by less than 0", two(23, 17, 65536 - 5), 65536 - 3);
        CHECK.due("div of the least", two(23, 32768, 65535), 32768);
        CHECK.due("div by 0", two(23, 17, 0), -17);
        CHECK.due("mod", two(24, 17, 5), 2);
        CHECK.due("mod of less than 0", two(24, 65536 - 17, 5), 65536 - 2);
        CHECK.due("mod by less than 0", two(24, 17, 65536 - 5), 2);
        CHECK.due("mod by 0", two(24, 17, 0), -17);
        CHECK.due("not", new Story(0x8F, 0x12, 0x34, 0).run(1).word(0, false), 0xEDCB);
    }

    /** Whether an OP of TWO BRANCHES. */
    private static boolean goes(int op, int a, int b) {
        TaleMachine x = new Story(0xC0 | op, 0x0F, a >> 8, a & 255, b >> 8, b & 255, 0xC5).run(1);
        return x.count(4) == CODE + 10;
    }

    private static void so(String what, boolean got, boolean want) {
        CHECK.due(what, got ? 1 : 0, want ? 1 : 0);
    }

    private static void conditions() {
        so("je", goes(1, 500, 500), true);
        so("je not", goes(1, 500, 501), false);
        so("jl", goes(2, 65535, 0), true);
        so("jl not", goes(2, 0, 0), false);
        so("jl of numbers above 32767", goes(2, 32768, 32767), true);
        so("jg", goes(3, 0, 65535), true);
        so("jg not", goes(3, 5, 5), false);
        so("test", goes(7, 0xFF, 0x81), true);
        so("test not", goes(7, 0xFF, 0x181), false);
        so("test of no bits", goes(7, 0, 0), true);
        so("je of four, the last", new Story(0xC1, 0x55, 9, 1, 2, 9, 0xC5).run(1).count(4) == CODE + 10, true);
        so("je of four, none", new Story(0xC1, 0x55, 9, 1, 2, 3, 0xC5).run(1).count(4) == CODE + 10, false);
        so("je of three", new Story(0xC1, 0x57, 9, 9, 2, 0xC5).run(1).count(4) == CODE + 9, true);
        so("jz", new Story(0x90, 0, 0xC5).run(1).count(4) == CODE + 6, true);
        so("jz not", new Story(0x90, 1, 0xC5).run(1).count(4) == CODE + 6, false);
        so("jz of a WORD", new Story(0x80, 0, 0, 0xC5).run(1).count(4) == CODE + 7, true);
        so("jz of a WORD not", new Story(0x80, 1, 0, 0xC5).run(1).count(4) == CODE + 7, false);
        so("verify", new Story(0xBD, 0xC5).run(1).count(4) == CODE + 5, true);
    }

    private static int pcAfter(int... code) {
        return new Story(code).run(1).count(4);
    }

    private static void branchForms() {
        CHECK.due("bit 7 clear, so", pcAfter(0x90, 0, 0x45), CODE + 3);
        CHECK.due("bit 7 clear, not so", pcAfter(0x90, 1, 0x45), CODE + 6);
        CHECK.due("the longest short offset", pcAfter(0x90, 0, 0xFF), CODE + 3 + 61);
        CHECK.due("long, forth", pcAfter(0x90, 0, 0x80, 200), CODE + 4 + 198);
        CHECK.due("long, not so", pcAfter(0x90, 1, 0x80, 200), CODE + 4);
        CHECK.due("long, back", pcAfter(0x90, 0, 0xBF, 0xFE), CODE + 4 - 4);
        CHECK.due("long, the least", pcAfter(0x90, 0, 0xA0, 0), (CODE + 4 - 8192 - 2) & 65535);
        CHECK.due("long, the most", pcAfter(0x90, 0, 0x9F, 0xFF), CODE + 4 + 8191 - 2);
        CHECK.due("long, offset 2", pcAfter(0x90, 0, 0x80, 2), CODE + 4);
        CHECK.halted("offset 0 in the first FRAME", new Story(0x90, 0, 0xC0).run(1), 4, CODE);
        CHECK.halted("offset 1 in the first FRAME", new Story(0x90, 0, 0xC1).run(1), 4, CODE);
        CHECK.halted("long offset 0", new Story(0x90, 0, 0x80, 0).run(1), 4, CODE);
        CHECK.halted("no BRANCH in MEMORY", atEnd(0x90, 0), 1, 1022);
        CHECK.halted("half a BRANCH, though it is not so", atEnd(0x90, 1, 0x80), 1, 1021);
        CHECK.due("a short BRANCH at the end", atEnd(0x90, 1, 0xC0).state(), 1);
    }

    /** Runs one ORDER whose last byte is the last of MEMORY. */
    private static TaleMachine atEnd(int... code) {
        int at = 1024 - code.length;
        return new Story().at(at, code).word(6, at).run(1);
    }

    private static void operandForms() {
        Story story = new Story().global(0, 1000).global(1, 24);
        CHECK.due("byte, byte", story.at(CODE, 20, 200, 100, 0).run(1).word(0, false), 300);
        CHECK.due("VARIABLE, byte", story.at(CODE, 84, G0, 100, 0).run(1).word(0, false), 1100);
        CHECK.due("byte, VARIABLE", story.at(CODE, 52, 100, G0, 0).run(1).word(0, false), 1100);
        CHECK.due("both", story.at(CODE, 116, G0, G1, 0).run(1).word(0, false), 1024);
        CHECK.due("WORD, VARIABLE", story.at(CODE, 0xD4, 0x2F, 1, 0, G0, 0).run(1).word(0, false), 1256);
        CHECK.due("ONE, WORD", story.at(CODE, 0x8F, 0, 0, 0).run(1).word(0, false), 65535);
        CHECK.due("ONE, byte", story.at(CODE, 0x9F, 1, 0).run(1).word(0, false), 65534);
        CHECK.due("ONE, VARIABLE", story.at(CODE, 0xAF, G0, 0).run(1).word(0, false), 64535);
        TaleMachine x = new Story(PUSH, ONE_BYTE, 10, PUSH, ONE_BYTE, 3, 0x75, 0, 0, 0).run(3);
        CHECK.due("the top comes first", x.word(0, false), 65536 - 7);
        CHECK.due("both went", x.count(2), 1);
        TaleMachine y = new Story(PUSH, ONE_BYTE, 10).at(1020, 0xD5, 0x8F, 0).word(6, CODE)
                .at(CODE + 3, 0x8C, 1020 - (CODE + 6) + 2 >> 8, 1020 - (CODE + 6) + 2 & 255).run(3);
        CHECK.halted("operands are read as they come", y, 1, 1020);
        CHECK.due("the first one went", y.count(2), 0);
        CHECK.due("an operand too many", new Story(0xD4, 0x57, 1, 2, 3, 0).run(1).word(0, false), 3);
        CHECK.due("none counts behind a 3", new Story(0xE0, 0xC5, 0).run(1).count(5), 6);
        CHECK.halted("a WORD cut off", atEnd(0x8F, 0), 1, 1022);
        CHECK.halted("TYPES cut off", atEnd(0xE8), 1, 1023);
    }

    private static void lackingOperands() {
        CHECK.halted("je of one", new Story(0xC1, 0x7F, 1, 0xC5).run(1), 6, CODE);
        CHECK.halted("add of one", new Story(0xD4, 0x7F, 1, 0).run(1), 6, CODE);
        CHECK.halted("add of none", new Story(0xD4, 0xFF, 0).run(1), 6, CODE);
        CHECK.halted("call of none", new Story(0xE0, 0xFF, 0).run(1), 6, CODE);
        CHECK.halted("storew of two", new Story(0xE1, 0x5F, 70, 0).run(1), 6, CODE);
        CHECK.halted("storeb of two", new Story(0xE2, 0x5F, 70, 0).run(1), 6, CODE);
        CHECK.halted("put_prop of two", new Story(0xE3, 0x5F, 1, 1).run(1), 6, CODE);
        CHECK.halted("read of one", new Story(0xE4, 0x7F, 70).run(1), 6, CODE);
        for (int op = 5; op <= 9; op++) {
            CHECK.halted("VAR " + op + " of none", new Story(0xE0 | op, 0xFF, 0).run(1), 6, CODE);
        }
        for (int op = 10; op <= 31; op++) {
            CHECK.halted("VAR " + op, new Story(0xE0 | op, 0x57, 1, 1, 1).run(1), 6, CODE);
        }
        CHECK.halted("TWO 0", new Story(0, 1, 1).run(1), 6, CODE);
        CHECK.halted("TWO 0 with TYPES", new Story(0xC0, 0x5F, 0, 0, 0xC5).run(1), 6, CODE);
        for (int op = 25; op <= 31; op++) {
            CHECK.halted("TWO " + op, new Story(op, 1, 1).run(1), 6, CODE);
        }
        CHECK.halted("ONE 8", new Story(0x98, 1).run(1), 6, CODE);
        for (int op : new int[] {5, 6, 12, 14, 15}) {
            CHECK.halted("NONE " + op, new Story(0xB0 | op).run(1), 6, CODE);
        }
        TaleMachine x = new Story(PUSH, ONE_BYTE, 1, 0xD4, 0xBF, 0).run(2);
        CHECK.halted("an operand from THE STACK", x, 6, CODE + 3);
        CHECK.due("it went all the same", x.count(2), 0);
    }

    private static void stack() {
        TaleMachine x = new Story(PUSH, ONE_BYTE, 5, PUSH, ONE_BYTE, 6, 0xB9, 0xB9, 0xB9).run(2);
        CHECK.due("two WORDS", x.count(2), 2);
        CHECK.due("the oldest", x.word(0, false), 5);
        CHECK.due("the newest", x.word(1, false), 6);
        CHECK.due("there is no third", x.word(2, false), -1);
        CHECK.due("nor one ahead", x.word(-1, false), -1);
        x.run(2);
        CHECK.due("none left", x.count(2), 0);
        x.run(1);
        CHECK.halted("pop of none", x, 4, CODE + 8);
        // the loop pushes until THE STACK is full
        TaleMachine y = new Story(PUSH, ONE_BYTE, 5, 0x8C, 255, 252).run(239);
        CHECK.due("120 WORDS", y.count(2), 120);
        CHECK.due("it can go on", y.state(), 1);
        y.run(2);
        CHECK.halted("a WORD more", y, 3, CODE);
        CHECK.due("none came", y.count(2), 120);
        CHECK.halted("read of none", new Story(0x54, 0, 1, G0).run(1), 4, CODE);
        TaleMachine z = new Story(PUSH, 0x3F, 0x12, 0x34, PULL, ONE_BYTE, G0).run(2);
        CHECK.due("pull", z.peek(Story.GLOBALS) * 256 + z.peek(Story.GLOBALS + 1), 0x1234);
        CHECK.halted("pull of none", new Story(PULL, ONE_BYTE, G0).run(1), 4, CODE);
        TaleMachine v = new Story(PUSH, ONE_BYTE, 5, PULL, ONE_BYTE, 1).run(2);
        CHECK.halted("pull to a LOCAL that is not there", v, 5, CODE + 3);
        CHECK.due("the WORD went", v.count(2), 0);
    }

    private static void locals() {
        CHECK.halted("read of LOCAL 1 in the first FRAME", new Story(0x54, 1, 1, 0).run(1), 5, CODE);
        CHECK.halted("written", new Story(0x14, 1, 1, 15).run(1), 5, CODE);
        Story story = new Story(0xE0, 0x3F, 1, 0x2C, 0).at(Story.ROUTINE, 2, 0, 11, 0, 22);
        CHECK.halted("LOCAL 3 of 2", story.at(Story.ROUTINE + 5, 0xAB, 3).run(2), 5, Story.ROUTINE + 5);
        TaleMachine x = story.at(Story.ROUTINE + 5, 0x74, 1, 2, 2, 0xAB, 2).run(2);
        CHECK.due("LOCALS", x.count(6), 2);
        CHECK.due("LOCAL 1", x.word(1, true), 11);
        CHECK.due("LOCAL 2", x.word(2, true), 33);
        CHECK.due("LOCAL 0", x.word(0, true), -1);
        CHECK.due("LOCAL 3", x.word(3, true), -1);
        x.run(1);
        CHECK.due("the answer", x.word(0, false), 33);
        CHECK.due("no LOCALS again", x.count(6), 0);
    }

    private static void globals() {
        TaleMachine x = new Story(0x14, 1, 2, 255).run(1);
        CHECK.halted("VARIABLE 255 is above THE MARK", x, 2, CODE);
        int last = (Story.MARK - Story.GLOBALS) / 2 + 15;
        TaleMachine y = new Story(0x14, 200, 200, last).run(1);
        CHECK.due("the last WORD below THE MARK, high", y.peek(Story.MARK - 2), 1);
        CHECK.due("the last WORD below THE MARK, low", y.peek(Story.MARK - 1), 144);
        TaleMachine z = new Story(0x14, 200, 200, last).word(14, Story.MARK - 1).run(1);
        CHECK.halted("half of it", z, 2, CODE);
        CHECK.due("nothing of it is written", z.peek(Story.MARK - 2), 0);
        CHECK.halted("GLOBALS out of MEMORY, read", new Story(0x54, G0, 1, 0).word(12, 1024).run(1), 1, CODE);
        CHECK.halted("half out", new Story(0x54, G0, 1, 0).word(12, 1023).run(1), 1, CODE);
        CHECK.halted("half out, written", new Story(0x14, 1, 1, G0).word(12, 1023).run(1), 2, CODE);
        CHECK.halted("out, written", new Story(0x14, 1, 1, G0).word(12, 1024).run(1), 1, CODE);
        TaleMachine v = new Story(0x54, 26, 1, 0).word(12, 65516).run(1);
        CHECK.due("an address over 65535", v.word(0, false), 0x301);
        // the word at 12 is written, the GLOBALS stay where they were
        TaleMachine w = new Story(0xE1, 0x57, 12, 0, 0, 0x54, G0, 1, 0).global(0, 77).run(2);
        CHECK.due("GLOBALS as they were when it was loaded", w.word(0, false), 78);
    }

    private static void namedVariables() {
        TaleMachine x = new Story(PUSH, ONE_BYTE, 1, PUSH, ONE_BYTE, 5, 0x95, 0, 0x96, 0, 0x96, 0,
                0x0D, 0, 44, 0x9E, 0, 0, PULL, ONE_BYTE, 0).run(3);
        CHECK.due("inc 0", x.word(1, false), 6);
        x.run(2);
        CHECK.due("dec 0", x.word(1, false), 4);
        x.run(1);
        CHECK.due("store 0", x.word(1, false), 44);
        CHECK.due("no WORD came", x.count(2), 2);
        x.run(1);
        CHECK.due("load 0", x.word(2, false), 44);
        CHECK.due("the top stays", x.word(1, false), 44);
        TaleMachine p = new Story(PUSH, ONE_BYTE, 1, PUSH, ONE_BYTE, 5, PULL, ONE_BYTE, 0).run(3);
        CHECK.due("pull 0: one went", p.count(2), 1);
        CHECK.due("pull 0: the next one becomes it", p.word(0, false), 5);
        TaleMachine q = new Story(PUSH, ONE_BYTE, 5, PULL, ONE_BYTE, 0).run(2);
        CHECK.halted("pull 0 without a next one", q, 4, CODE + 3);
        CHECK.due("the top went", q.count(2), 0);
        CHECK.halted("inc 0 of none", new Story(0x95, 0).run(1), 4, CODE);
        CHECK.halted("store 0 of none", new Story(0x0D, 0, 1).run(1), 4, CODE);
        CHECK.halted("load 0 of none", new Story(0x9E, 0, 0).run(1), 4, CODE);
        CHECK.halted("dec of LOCAL 9", new Story(0x96, 9).run(1), 5, CODE);
        TaleMachine y = new Story(0x85, 1, G0, 0xCD, 0x1F, 2, G1, 9).global(0, 65535).run(2);
        CHECK.due("inc, above 255", y.peek(64) + y.peek(65), 0);
        CHECK.due("store, above 255", y.peek(67), 9);
        TaleMachine z = new Story(0xA5, G0, 0xAE, G0, G1).global(0, G1).global(1, 6).run(2);
        CHECK.due("the operand's value names it", z.peek(67), 7);
        so("inc_chk not yet", new Story(0x05, G0, 4, 0xC5).global(0, 3).run(1).count(4) == CODE + 7, false);
        so("inc_chk", new Story(0x05, G0, 4, 0xC5).global(0, 4).run(1).count(4) == CODE + 7, true);
        so("inc_chk SIGNED", new Story(0x05, G0, 0, 0xC5).global(0, 32767).run(1).count(4) == CODE + 7, false);
        so("dec_chk not yet", new Story(0x04, G0, 4, 0xC5).global(0, 5).run(1).count(4) == CODE + 7, false);
        so("dec_chk", new Story(0x04, G0, 0, 0xC5).run(1).count(4) == CODE + 7, true);
        CHECK.due("dec_chk from 0", new Story(0x04, G0, 0, 0xC5).run(1).peek(64), 255);
        TaleMachine v = new Story().at(1021, 0x05, G0, 4).word(6, 1021).run(1);
        CHECK.halted("inc_chk without a BRANCH", v, 1, 1021);
        CHECK.due("what it did stays", v.peek(65), 1);
    }

    private static void calls() {
        Story story = new Story(0xE0, 0x15, 1, 0x2C, 7, 8, 9, G0).at(Story.ROUTINE, 2, 0, 11, 0, 22, 0xB0);
        TaleMachine x = story.run(1);
        CHECK.due("FRAMES", x.count(3), 2);
        CHECK.due("PC behind the LOCALS", x.count(4), Story.ROUTINE + 5);
        CHECK.due("operands instead of the first", x.word(1, true), 7);
        CHECK.due("the second", x.word(2, true), 8);
        CHECK.due("not more than there are", x.count(6), 2);
        x.run(1);
        CHECK.due("back", x.count(4), CODE + 8);
        CHECK.due("rtrue answers", x.peek(65), 1);
        CHECK.due("one FRAME again", x.count(3), 1);
        TaleMachine y = story.at(CODE, 0xE0, 0x1F, 1, 0x2C, 7, G0).run(1);
        CHECK.due("the LOCAL that no operand is for", y.word(2, true), 22);
        TaleMachine z = new Story(0xE0, 0x5F, 0, 5, G0).global(0, 9).run(1);
        CHECK.due("call 0", z.peek(65), 0);
        CHECK.due("call 0 makes no FRAME", z.count(3), 1);
        CHECK.due("call 0 goes on", z.count(4), CODE + 5);
        CHECK.halted("16 LOCALS", story.at(CODE, 0xE0, 0x3F, 1, 0x2C, 0).at(Story.ROUTINE, 16).run(1), 8, CODE);
        CHECK.due("15 LOCALS", story.at(Story.ROUTINE, 15).run(1).count(6), 15);
        CHECK.halted("no routine in MEMORY", new Story(0xE0, 0x3F, 2, 0, 0).run(1), 1, CODE);
        CHECK.due("2 a modulo 65536", new Story(0xE0, 0x3F, 0x81, 0x2C, 0).at(Story.ROUTINE, 0).run(1).count(4),
                Story.ROUTINE + 1);
        TaleMachine w = new Story(0xE0, 0x3F, 1, 255, 0).at(1022, 1, 0).run(1);
        CHECK.halted("a LOCAL's WORD cut off", w, 1, CODE);
        CHECK.due("no FRAME came", w.count(3), 1);
        TaleMachine v = new Story(0xE0, 0x3F, 1, 0x2C, 0).at(Story.ROUTINE, 0, 0xE0, 0x3F, 1, 0x2C, 0).run(19);
        CHECK.due("20 FRAMES", v.count(3), 20);
        v.run(1);
        CHECK.halted("a FRAME more", v, 3, Story.ROUTINE + 1);
        CHECK.due("none came", v.count(3), 20);
        TaleMachine u = new Story().at(1020, 0xE0, 0x3F, 1, 0x2C).word(6, 1020).at(Story.ROUTINE, 99).run(1);
        CHECK.halted("s is read ahead of all", u, 1, 1020);
    }

    private static void returns() {
        CHECK.halted("rtrue of the first FRAME", new Story(0xB0).run(1), 4, CODE);
        CHECK.halted("rfalse of the first FRAME", new Story(0xB1).run(1), 4, CODE);
        CHECK.halted("ret of the first FRAME", new Story(0x9B, 5).run(1), 4, CODE);
        TaleMachine x = new Story(PUSH, ONE_BYTE, 5, 0xB8).run(2);
        CHECK.halted("ret_popped of the first FRAME", x, 4, CODE + 3);
        int[] call = {PUSH, ONE_BYTE, 5, 0xE0, 0x3F, 1, 0x2C, 0};
        Story story = new Story(call);
        TaleMachine y = story.at(Story.ROUTINE, 0, PUSH, ONE_BYTE, 6, PUSH, ONE_BYTE, 7, 0x9B, 8).run(4);
        CHECK.due("three WORDS", y.count(2), 3);
        y.run(1);
        CHECK.due("its WORDS are gone", y.count(2), 2);
        CHECK.due("the answer", y.word(1, false), 8);
        TaleMachine z = story.at(Story.ROUTINE, 0, PUSH, ONE_BYTE, 6, 0xB8).run(4);
        CHECK.due("ret_popped", z.word(1, false), 6);
        CHECK.due("ret_popped goes back", z.count(4), CODE + 8);
        CHECK.halted("WORDS of other FRAMES", story.at(Story.ROUTINE, 0, 0xB9).run(3), 4, Story.ROUTINE + 1);
        CHECK.halted("ret_popped of none", story.at(Story.ROUTINE, 0, 0xB8).run(3), 4, Story.ROUTINE + 1);
        TaleMachine f = story.at(Story.ROUTINE, 0, 0xB1).run(3);
        CHECK.due("rfalse", f.word(1, false), 0);
        CHECK.due("rfalse goes back", f.count(4), CODE + 8);
        TaleMachine b = story.at(Story.ROUTINE, 0, 0x90, 0, RETURN_ON_TRUE).run(3);
        CHECK.due("a BRANCH of offset 1", b.word(1, false), 1);
        TaleMachine c = story.at(Story.ROUTINE, 0, 0x90, 0, 0xC0).run(3);
        CHECK.due("a BRANCH of offset 0", c.word(1, false), 0);
        TaleMachine v = story.at(CODE + 7, 3).at(Story.ROUTINE, 3, 0, 0, 0, 0, 0, 0, 0xB0).run(3);
        CHECK.halted("s is a LOCAL of the caller, who has none", v, 5, Story.ROUTINE + 7);
        CHECK.due("the FRAME is gone", v.count(3), 1);
        CHECK.due("its caller's WORDS stay", v.count(2), 1);
        // THE STACK is full when the call's answer comes
        TaleMachine w = new Story(PUSH, ONE_BYTE, 5, 0x05, G0, 119, 0xC5, 0x8C, 255, 248, 0xE0, 0x3F, 1, 0x2C, 0)
                .at(Story.ROUTINE, 0, 0xB0).loaded();
        for (int i = 0; i < 3; i++) {
            w.run(300);
        }
        CHECK.halted("no room for the answer", w, 3, Story.ROUTINE + 1);
        CHECK.due("still 120", w.count(2), 120);
    }

    private static void jumps() {
        CHECK.due("jump forth", pcAfter(0x8C, 0, 100), CODE + 3 + 98);
        CHECK.due("jump back", pcAfter(0x8C, 255, 253), CODE + 3 - 5);
        CHECK.due("jump by a byte", pcAfter(0x9C, 200), CODE + 2 + 198);
        CHECK.due("jump 2", pcAfter(0x9C, 2), CODE + 2);
        CHECK.halted("jump 0 returns, as a BRANCH does", new Story(0x9C, 0).run(1), 4, CODE);
        Story story = new Story(0xE0, 0x3F, 1, 0x2C, G0).global(0, 9);
        CHECK.due("jump 0", story.at(Story.ROUTINE, 0, 0x9C, 0).run(2).peek(65), 0);
        CHECK.due("jump 1", story.at(Story.ROUTINE, 0, 0x9C, 1).run(2).peek(65), 1);
        CHECK.due("jump out of MEMORY", new Story(0x8C, 0x7F, 0xFF).run(1).state(), 1);
        CHECK.halted("and then", new Story(0x8C, 0x7F, 0xFF).run(2), 1, CODE + 3 + 32765);
    }

    private static void memoryOrders() {
        Story story = new Story().global(0, 0x1234).global(1, 0x5678);
        CHECK.due("loadw", story.at(CODE, 0x0F, 64, 1, 0).run(1).word(0, false), 0x5678);
        CHECK.due("loadb", story.at(CODE, 0x10, 64, 1, 0).run(1).word(0, false), 0x34);
        CHECK.due("loadw modulo 65536", story.at(CODE, 0xCF, 0x0F, 0, 64, 128, 1, 0).run(1).word(0, false), 0x5678);
        CHECK.halted("loadb at L", story.at(CODE, 0xD0, 0x1F, 4, 0, 0, 0).run(1), 1, CODE);
        CHECK.halted("loadw at L - 1", story.at(CODE, 0xCF, 0x1F, 3, 255, 0, 0).run(1), 1, CODE);
        CHECK.halted("loadw at 65535", story.at(CODE, 0xCF, 0x1F, 255, 255, 0, 0).run(1), 1, CODE);
        TaleMachine x = story.at(CODE, 0xE1, 0x53, 64, 1, 0xAB, 0xCD).run(1);
        CHECK.due("storew, high", x.peek(66), 0xAB);
        CHECK.due("storew, low", x.peek(67), 0xCD);
        TaleMachine y = story.at(CODE, 0xE2, 0x53, 64, 1, 0xAB, 0xCD).run(1);
        CHECK.due("storeb", y.peek(65), 0xCD);
        CHECK.due("storeb, the next one", y.peek(66), 0x56);
        CHECK.halted("storeb at THE MARK", story.at(CODE, 0xE2, 0x17, 1, 84, 0, 1).run(1), 2, CODE);
        CHECK.halted("storeb at L", story.at(CODE, 0xE2, 0x17, 4, 0, 0, 1).run(1), 1, CODE);
        TaleMachine z = story.at(CODE, 0xE1, 0x17, 1, 83, 0, 1).at(Story.MARK - 1, 99).run(1);
        CHECK.halted("storew over THE MARK", z, 2, CODE);
        CHECK.due("nothing is written", z.peek(Story.MARK - 1), 99);
        CHECK.halted("storew at L - 1", story.at(CODE, 0xE1, 0x17, 3, 255, 0, 1).run(1), 2, CODE);
        CHECK.halted("storew at L - 1, all writable",
                new Story(0xE1, 0x17, 3, 255, 0, 1).word(14, 1024).word(4, 1024).run(1), 1, CODE);
        CHECK.due("the header can be written", story.at(CODE, 0xE2, 0x57, 14, 0, 7).run(1).peek(14), 7);
        CHECK.due("THE MARK stays", story.at(CODE, 0xE2, 0x57, 14, 0, 7).run(1).count(8), Story.MARK);
    }

    private static void randomOrder() {
        int[] dice = {0xE7, 0x7F, 100, 0};
        TaleMachine x = new Story(Story.join(dice, dice, dice)).run(3);
        int draw = 1;
        for (int i = 0; i < 3; i++) {
            draw = draw * 1103515245 + 12345;
            CHECK.due("draw " + i, x.word(i, false), (draw >>> 16 & 32767) % 100 + 1);
        }
        CHECK.due("the first draw", x.word(0, false), 39);
        TaleMachine y = new Story(Story.join(Story.code(0xE7, 0x3F, 255, 251, 0), dice)).run(2);
        CHECK.due("a seed answers 0", y.word(0, false), 0);
        CHECK.due("and is THE DRAW", y.word(1, false), ((5 * 1103515245 + 12345) >>> 16 & 32767) % 100 + 1);
        TaleMachine z = new Story(Story.join(Story.code(0xE7, 0x7F, 0, 0), dice)).run(2);
        CHECK.due("of 0", z.word(0, false), 0);
        CHECK.due("it stays", z.word(1, false), 39);
        TaleMachine w = new Story(Story.join(Story.code(0xE7, 0x3F, 128, 0, 0), dice)).run(2);
        CHECK.due("the least seed", w.word(1, false), ((32768 * 1103515245 + 12345) >>> 16 & 32767) % 100 + 1);
        CHECK.due("random 1", new Story(0xE7, 0x7F, 1, 0).run(1).word(0, false), 1);
    }

    private static void shortOrders() {
        TaleMachine x = new Story(0x14, 1, 1, G0, PUSH, ONE_BYTE, 5, 0xBB, 0xE7, 0x7F, 100, 0, 0xB7).run(4);
        x.run(1);
        CHECK.due("restart: PC", x.count(4), CODE);
        CHECK.due("restart: MEMORY", x.peek(65), 0);
        CHECK.due("restart: THE STACK", x.count(2), 0);
        CHECK.due("restart: THE OUTPUT stays", x.count(0), 1);
        CHECK.due("restart: counts stay", x.count(1), 5);
        x.run(4);
        CHECK.due("restart: THE DRAW stays", x.word(1, false),
                ((1103515245 * (1103515245 + 12345) + 12345) >>> 16 & 32767) % 100 + 1);
        Story deep = new Story(0xE0, 0x3F, 1, 0x2C, 0).at(Story.ROUTINE, 0, 0xB7);
        CHECK.due("restart: FRAMES", deep.run(2).count(3), 1);
        CHECK.due("nothing", new Story(0xB4).run(1).count(4), CODE + 1);
    }
}
