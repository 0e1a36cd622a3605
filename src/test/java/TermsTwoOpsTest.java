/** "Terms" 2, sentence by sentence: OPS of TWO, ONE, NONE and VAR, but for those of OBJECTS, TEXT, read and random. */
public final class TermsTwoOpsTest {
    private static final Check CHECK = new Check();
    private static final int CODE = Story.CODE, ROUTINE = Story.ROUTINE;
    private static final int G0 = Story.G0;
    private static final int BEHIND_TWO = CODE + 7;
    private static final int LAST_WRITABLE = Story.MARK - 1;

    public static void main(String[] args) {
        je();
        signedConditions();
        steps();
        test();
        bits();
        store();
        division();
        jz();
        jump();
        restart();
        returnsTheTop();
        quit();
        verify();
        callOfNone();
        manyLocals();
        noRoomForAFrame();
        localsOfACall();
        ret();
        retOfTheFirst();
        storing();
        CHECK.finish();
    }

    private static void so(int op, int a, int b, boolean want) {
        TaleMachine x = Story.of(Orders.two(op, a, b, Orders.SKIPS)).run(1);
        CHECK.due("TWO " + op + " of " + a + ", " + b, x.count(4), want ? BEHIND_TWO + 3 : BEHIND_TWO);
    }

    private static int answer(int[] order) {
        TaleMachine x = Story.of(order).run(1);
        return x.state() == 4 ? -10 - x.count(5) : x.word(0, false);
    }

    private static void je() {
        CHECK.says("1 je? a is one of the others");
        so(Orders.JE, 65535, 65535, true);
        so(Orders.JE, 65535, 255, false);
        so(Orders.JE, 0, 0, true);
        int[][] others = {{9, 1, 2}, {1, 9, 2}, {1, 2, 9}, {1, 2, 3}, {1, 1, 1}};
        boolean[] want = {true, true, true, false, false};
        for (int i = 0; i < others.length; i++) {
            TaleMachine x = new Story(0xC1, 0x55, 9, others[i][0], others[i][1], others[i][2], 0xC5).run(1);
            CHECK.due("four, row " + i, x.count(4), want[i] ? CODE + 10 : CODE + 7);
        }
        CHECK.due("three, the second", new Story(0xC1, 0x57, 9, 1, 9, 0xC5).run(1).count(4), CODE + 9);
        CHECK.due("three, none", new Story(0xC1, 0x57, 9, 1, 2, 0xC5).run(1).count(4), CODE + 6);
        CHECK.halted("a alone lacks the others", new Story(0xC1, 0x7F, 9, 0xC5).run(1), 6, CODE);
    }

    private static void signedConditions() {
        CHECK.says("2 jl?, 3 jg? SIGNED");
        int[] rising = {32768, 65535, 0, 1, 32767};
        for (int i = 0; i < rising.length; i++) {
            for (int k = 0; k < rising.length; k++) {
                so(Orders.JL, rising[i], rising[k], i < k);
                so(Orders.JG, rising[i], rising[k], i > k);
            }
        }
    }

    private static void steps(int op, int value, int b, int left, boolean want) {
        TaleMachine x = Story.of(Orders.two(op, G0, b, Orders.SKIPS)).global(0, value).run(1);
        CHECK.due("TWO " + op + " of " + value + ": what is left", Story.wordOf(x, 64), left);
        CHECK.due("TWO " + op + " of " + value + " and " + b, x.count(4), want ? BEHIND_TWO + 3 : BEHIND_TWO);
    }

    private static void steps() {
        CHECK.says("4 dec_chk?, 5 inc_chk? VARIABLE a less, more by 1, then SIGNED below, above b");
        steps(Orders.DEC_CHK, 5, 4, 4, false);
        steps(Orders.DEC_CHK, 5, 5, 4, true);
        steps(Orders.DEC_CHK, 0, 0, 65535, true);
        steps(Orders.DEC_CHK, 32768, 0, 32767, false);
        steps(Orders.DEC_CHK, 32769, 0, 32768, true);
        steps(Orders.DEC_CHK, 0, 65535, 65535, false);
        steps(Orders.INC_CHK, 4, 5, 5, false);
        steps(Orders.INC_CHK, 5, 5, 6, true);
        steps(Orders.INC_CHK, 65535, 65535, 0, true);
        steps(Orders.INC_CHK, 65535, 0, 0, false);
        steps(Orders.INC_CHK, 32767, 0, 32768, false);
        steps(Orders.INC_CHK, 32766, 0, 32767, true);
        TaleMachine x = Story.atEnd(Orders.two(Orders.INC_CHK, G0, 4)).run(1);
        CHECK.halted("no BRANCH", x, 1, 1018);
        CHECK.due("it is more by 1 all the same", Story.wordOf(x, 64), 1);
    }

    private static void test() {
        CHECK.says("7 test? a has all bits of b");
        so(Orders.TEST, 65535, 65535, true);
        so(Orders.TEST, 65534, 65535, false);
        so(Orders.TEST, 32767, 32768, false);
        so(Orders.TEST, 32768, 32768, true);
        so(Orders.TEST, 0, 0, true);
        so(Orders.TEST, 5, 0, true);
        so(Orders.TEST, 0, 1, false);
        so(Orders.TEST, 6, 3, false);
    }

    private static void bits() {
        CHECK.says("8 or s; 9 and s; 15 not s");
        CHECK.due("or", answer(Orders.two(Orders.OR, 0x8001, 0x0180, 0)), 0x8181);
        CHECK.due("or of 65535", answer(Orders.two(Orders.OR, 65535, 0, 0)), 65535);
        CHECK.due("and", answer(Orders.two(Orders.AND, 0x8181, 0x80FF, 0)), 0x8081);
        CHECK.due("and of 0", answer(Orders.two(Orders.AND, 65535, 0, 0)), 0);
        CHECK.due("not 0", answer(Orders.one(Orders.NOT, 0, 0)), 65535);
        CHECK.due("not 65535", answer(Orders.one(Orders.NOT, 65535, 0)), 0);
        CHECK.due("not 32768", answer(Orders.one(Orders.NOT, 32768, 0)), 32767);
    }

    private static void store() {
        CHECK.says("13 store b to VARIABLE a");
        CHECK.due("a GLOBAL", Story.wordOf(Story.of(Orders.two(Orders.STORE, G0, 65535)).run(1), 64), 65535);
        Story story = Story.of(Orders.call(ROUTINE, 0)).at(ROUTINE, 1, 0, 9).at(ROUTINE + 3, Orders.two(Orders.STORE, 1, 65535));
        CHECK.due("a LOCAL", story.run(2).word(1, true), 65535);
        CHECK.halted("a GLOBAL over THE MARK", Story.of(Orders.two(Orders.STORE, 255, 1)).run(1), 2, CODE);
    }

    private static void division() {
        CHECK.says("23 div s; 24 mod s (SIGNED, toward 0; by 0: HALT 7)");
        int[] numbers = {32768, 32769, 65535 - 6, 65535, 1, 7, 32767};
        for (int a : numbers) {
            for (int b : numbers) {
                CHECK.due(a + " by " + b, answer(Orders.two(Orders.DIV, a, b, 0)), (short) a / (short) b & 65535);
                CHECK.due(a + " mod " + b, answer(Orders.two(Orders.MOD, a, b, 0)), (short) a % (short) b & 65535);
            }
            CHECK.due(a + " by 0", answer(Orders.two(Orders.DIV, a, 0, 0)), -17);
            CHECK.due(a + " mod 0", answer(Orders.two(Orders.MOD, a, 0, 0)), -17);
        }
        CHECK.due("0 by 5", answer(Orders.two(Orders.DIV, 0, 5, 0)), 0);
        CHECK.due("0 by 0", answer(Orders.two(Orders.DIV, 0, 0, 0)), -17);
        CHECK.due("-7 by 2, toward 0", answer(Orders.two(Orders.DIV, 65529, 2, 0)), 65533);
        CHECK.due("-7 mod 2, toward 0", answer(Orders.two(Orders.MOD, 65529, 2, 0)), 65535);
        CHECK.due("7 mod -2", answer(Orders.two(Orders.MOD, 7, 65534, 0)), 1);
    }

    private static void jz() {
        CHECK.says("0 jz?");
        for (int a : new int[] {0, 1, 255, 256, 32768, 65535}) {
            TaleMachine x = Story.of(Orders.one(Orders.JZ, a, Orders.SKIPS)).run(1);
            CHECK.due("jz " + a, x.count(4), a == 0 ? CODE + 7 : CODE + 4);
        }
    }

    private static int jumped(int offset) {
        return Story.of(Orders.one(Orders.JUMP, offset)).run(1).count(4);
    }

    private static void jump() {
        CHECK.says("12 jump (SIGNED, as a BRANCH's offset, 0, 1 too)");
        CHECK.due("2", jumped(2), CODE + 3);
        CHECK.due("3", jumped(3), CODE + 4);
        CHECK.due("32767", jumped(32767), CODE + 3 + 32765);
        CHECK.due("32768", jumped(32768), CODE + 3 - 32770 + 65536);
        CHECK.due("65535", jumped(65535), CODE);
        CHECK.due("65534", jumped(65534), CODE - 1);
        CHECK.halted("0 in the first FRAME", Story.of(Orders.one(Orders.JUMP, 0)).run(1), 4, CODE);
        CHECK.halted("1 in the first FRAME", Story.of(Orders.one(Orders.JUMP, 1)).run(1), 4, CODE);
        for (int offset = 0; offset <= 1; offset++) {
            TaleMachine x = Story.of(Orders.call(ROUTINE, G0)).global(0, 9).at(ROUTINE, 0)
                    .at(ROUTINE + 1, Orders.one(Orders.JUMP, offset)).run(2);
            CHECK.due("the FRAME returns " + offset, Story.wordOf(x, 64), offset);
            CHECK.due("PC behind the call", x.count(4), CODE + 5);
        }
    }

    private static void restart() {
        CHECK.says("7 restart (restart: MEMORY, THE STACK, FRAMES, PC alone.)");
        TaleMachine x = Story.of(Orders.storeb(LAST_WRITABLE, 9), Orders.push(4), Orders.none(Orders.NEW_LINE),
                Orders.call(ROUTINE, 0)).at(ROUTINE, 2, 0, 1, 0, 2, 0xE8, 0x7F, 3, 0xB7).run(6);
        CHECK.due("MEMORY", x.peek(LAST_WRITABLE), 0);
        CHECK.due("THE STACK", x.count(2), 0);
        CHECK.due("FRAMES", x.count(3), 1);
        CHECK.due("LOCALS", x.count(6), 0);
        CHECK.due("PC", x.count(4), CODE);
        CHECK.due("THE OUTPUT stays", x.count(0), 1);
        CHECK.due("ORDERS begun stay", x.count(1), 6);
        CHECK.due("the state", x.state(), 1);
        TaleMachine y = Story.of(Story.code(0xE7, 0x7F, 100, 0, 0xB7)).run(3);
        int draw = 1103515245 * (1103515245 + 12345) + 12345;
        CHECK.due("THE DRAW stays", y.word(0, false), (draw >>> 16 & 32767) % 100 + 1);
        TaleMachine z = Story.of(Orders.none(Orders.RESTART)).loaded();
        z.save(0);
        z.run(1);
        CHECK.due("slots stay", z.restore(0), 1);
    }

    private static void returnsTheTop() {
        CHECK.says("8 ret the top of THE STACK; 9 that goes");
        Story story = Story.of(Orders.call(ROUTINE, G0));
        TaleMachine x = story.at(ROUTINE, Story.join(Story.code(0), Orders.push(6), Orders.push(7), Story.code(0xB8))).run(4);
        CHECK.due("the top", Story.wordOf(x, 64), 7);
        CHECK.due("the FRAME's WORDS went", x.count(2), 0);
        TaleMachine none = story.at(ROUTINE, 0, 0xB8).run(2);
        CHECK.halted("of none", none, 4, ROUTINE + 1);
        CHECK.due("of none: the FRAME stays", none.count(3), 2);
        TaleMachine first = Story.of(Orders.push(7), Story.code(0xB8)).run(2);
        CHECK.halted("of the first FRAME", first, 4, CODE + 4);
        CHECK.due("of the first FRAME: the top went", first.count(2), 0);
        TaleMachine y = Story.of(Orders.push(6), Orders.push(7), Story.code(0xB9, 0xB9, 0xB9)).run(3);
        CHECK.due("one goes", y.count(2), 1);
        CHECK.due("the other one stays", y.word(0, false), 6);
        y.run(2);
        CHECK.halted("none is left", y, 4, CODE + 10);
    }

    private static void quit() {
        CHECK.says("10 quit (ENDED)");
        TaleMachine x = Story.of(Orders.none(Orders.QUIT), Orders.none(Orders.NEW_LINE)).loaded();
        CHECK.due("run", x.run(300), 2);
        CHECK.due("the state", x.state(), 2);
        CHECK.due("no ORDER behind it", x.count(1), 1);
        CHECK.due("nothing more is told", x.count(0), 0);
        CHECK.due("no HALT", x.count(5), 0);
        CHECK.due("run again", x.run(1), -2);
    }

    private static void verify() {
        CHECK.says("13 verify? (so it is)");
        CHECK.due("so", new Story(0xBD, 0xC5).run(1).count(4), CODE + 5);
        CHECK.due("not", new Story(0xBD, 0x45).run(1).count(4), CODE + 2);
        TaleMachine changed = Story.of(Orders.storeb(70, 1), Story.code(0xBD, 0xC5)).run(2);
        CHECK.due("also when MEMORY has changed", changed.count(4), CODE + 8 + 5);
        TaleMachine behind = Story.of(Story.code(0x90, 1, 0xC5), Story.code(0xBD, 0xC5)).run(2);
        CHECK.due("also behind what was not so", behind.count(4), CODE + 3 + 5);
    }

    private static void callOfNone() {
        CHECK.says("0 call s: of a 0: 0");
        TaleMachine x = Story.of(Orders.call(0, G0)).global(0, 9).run(1);
        CHECK.due("0", Story.wordOf(x, 64), 0);
        CHECK.due("no FRAME", x.count(3), 1);
        CHECK.due("PC", x.count(4), CODE + 5);
        TaleMachine y = Story.of(Orders.call(0, 0, 7, 8)).run(1);
        CHECK.due("with others", y.word(0, false), 0);
        CHECK.due("PC behind them", y.count(4), CODE + 9);
        CHECK.halted("s is a LOCAL that is not there", Story.of(Orders.call(0, 1)).run(1), 5, CODE);
        Story full = Story.of(Orders.call(ROUTINE, 0)).at(ROUTINE, Story.join(Story.code(0, 0x05, G0, 18, 0xC7),
                Orders.call(ROUTINE, 0), Orders.call(0, 0)));
        TaleMachine z = full.run(39);
        CHECK.due("20 FRAMES", z.count(3), 20);
        CHECK.due("of 0 in the last FRAME", z.word(0, false), 0);
        CHECK.due("it needs none", z.state(), 1);
    }

    private static void manyLocals() {
        CHECK.says("at 2 a a byte, how many LOCALS (above 15: HALT 8 ..");
        for (int many : new int[] {0, 1, 14, 15}) {
            TaleMachine x = Story.of(Orders.call(ROUTINE, 0)).at(ROUTINE, many).run(1);
            CHECK.due(many + " LOCALS", x.count(6), many);
            CHECK.due(many + " LOCALS: PC", x.count(4), ROUTINE + 1 + 2 * many);
        }
        for (int many : new int[] {16, 17, 128, 255}) {
            TaleMachine x = Story.of(Orders.call(ROUTINE, 0)).at(ROUTINE, many).run(1);
            CHECK.halted(many + " LOCALS", x, 8, CODE);
            CHECK.due(many + " LOCALS: FRAMES", x.count(3), 1);
        }
        CHECK.halted("no byte", Story.of(Orders.call(1024, 0)).run(1), 1, CODE);
        CHECK.due("2 a modulo 65536", Story.of(Orders.call(65536 + ROUTINE, 0)).run(1).count(4), ROUTINE + 1);
        CHECK.halted("2 a is 65534", Story.of(Orders.call(65534, 0)).run(1), 1, CODE);
    }

    private static void noRoomForAFrame() {
        CHECK.says("(above 15: HALT 8; FRAMES: HALT 3)");
        Story story = Story.of(Orders.call(ROUTINE, 0)).at(ROUTINE, Story.join(Story.code(0), Orders.call(ROUTINE, 0)));
        CHECK.halted("the 21st", story.run(300), 3, ROUTINE + 1);
        Story deep = Story.of(Orders.call(ROUTINE, 0)).at(ROUTINE, Story.join(Story.code(0, 0x05, G0, 18, 0xC7),
                Orders.call(ROUTINE, 0), Orders.call(700, 0))).at(700, 16);
        CHECK.halted("the 21st with 16 LOCALS", deep.run(300), 8, ROUTINE + 10);
        CHECK.halted("the 21st with 15", deep.at(700, 15).run(300), 3, ROUTINE + 10);
    }

    private static void localsOfACall() {
        CHECK.says("their WORDS, instead of the first ones the other OPERANDS; PC behind them");
        Story story = new Story().at(ROUTINE, 3, 1, 44, 1, 45, 1, 46);
        for (int given = 0; given <= 3; given++) {
            int[] others = {65535, 0, 7};
            TaleMachine x = story.at(CODE, Orders.call(ROUTINE, 0, java.util.Arrays.copyOf(others, given))).run(1);
            for (int i = 1; i <= 3; i++) {
                CHECK.due(given + " others: LOCAL " + i, x.word(i, true), i <= given ? others[i - 1] : 299 + i);
            }
            CHECK.due(given + " others: PC", x.count(4), ROUTINE + 7);
        }
        TaleMachine y = Story.of(Orders.call(ROUTINE, 0, 7, 8, 9)).at(ROUTINE, 1, 0, 5).run(1);
        CHECK.due("more others than LOCALS", y.count(6), 1);
        CHECK.due("the first of them", y.word(1, true), 7);
        TaleMachine z = Story.of(Orders.call(ROUTINE, 0, 7)).at(ROUTINE, 0).run(1);
        CHECK.due("no LOCALS", z.count(6), 0);
        CHECK.halted("a WORD that is cut off", Story.of(Orders.call(1022, 0)).at(1022, 1).run(1), 1, CODE);
        TaleMachine v = Story.of(Orders.call(1020, 0)).at(1020, 1, 2, 3).run(1);
        CHECK.due("the last WORD", v.word(1, true), 515);
        TaleMachine w = Story.of(Orders.call(1022, 0, 9)).at(1022, 1).run(1);
        CHECK.due("a WORD that is cut off, another instead of it", w.word(1, true), 9);
        CHECK.due("PC behind it", w.count(4), 1025);
    }

    private static void ret() {
        CHECK.says("ret: the FRAME goes with its WORDS of THE STACK, s of its call gets it, PC goes on there");
        Story story = Story.of(Orders.push(1), Orders.call(ROUTINE, 0))
                .at(ROUTINE, Story.join(Story.code(2, 0, 0, 0, 0), Orders.push(8), Orders.push(9), Orders.one(Orders.RET, 65535)));
        TaleMachine x = story.run(5);
        CHECK.due("FRAMES", x.count(3), 1);
        CHECK.due("LOCALS", x.count(6), 0);
        CHECK.due("WORDS", x.count(2), 2);
        CHECK.due("the caller's", x.word(0, false), 1);
        CHECK.due("the answer", x.word(1, false), 65535);
        CHECK.due("PC", x.count(4), CODE + 4 + 5);
        CHECK.due("rtrue", Story.of(Orders.call(ROUTINE, 0)).at(ROUTINE, 0, 0xB0).run(2).word(0, false), 1);
        CHECK.due("rfalse", Story.of(Orders.call(ROUTINE, 0)).at(ROUTINE, 0, 0xB1).run(2).word(0, false), 0);
        TaleMachine y = Story.of(Orders.call(ROUTINE, 0)).at(ROUTINE, Story.join(Story.code(1, 0, 0), Orders.call(700, 1),
                Story.code(0xAB, 1))).at(700, 0, 0x9B, 66).run(4);
        CHECK.due("to a LOCAL of the caller, and on", y.word(0, false), 66);
        TaleMachine z = Story.of(Orders.call(ROUTINE, 255)).at(ROUTINE, 0, 0xB0).run(2);
        CHECK.halted("s can't be written", z, 2, ROUTINE + 1);
        CHECK.due("the FRAME went all the same", z.count(3), 1);
    }

    private static void retOfTheFirst() {
        CHECK.says("of the first FRAME: HALT 4");
        CHECK.halted("ret", Story.of(Orders.one(Orders.RET, 1)).run(1), 4, CODE);
        CHECK.halted("rtrue", Story.of(Orders.none(Orders.RTRUE)).run(1), 4, CODE);
        CHECK.halted("rfalse", Story.of(Orders.none(Orders.RFALSE)).run(1), 4, CODE);
        CHECK.halted("print_ret", Story.of(Orders.none(Orders.PRINT_RET, Story.pack(6, 6, 6))).run(1), 4, CODE);
        CHECK.halted("a BRANCH", new Story(0xBD, 0xC1).run(1), 4, CODE);
        TaleMachine x = Story.of(Orders.call(ROUTINE, 0), Orders.none(Orders.RTRUE)).at(ROUTINE, 0, 0xB0).run(3);
        CHECK.halted("behind a call", x, 4, CODE + 5);
        int[][] returns = {Orders.one(Orders.RET, 1), Orders.none(Orders.RTRUE), Orders.none(Orders.RFALSE),
            Orders.one(Orders.JUMP, 0), Orders.one(Orders.JZ, 0, 0xC1)};
        for (int i = 0; i < returns.length; i++) {
            TaleMachine y = Story.of(Orders.push(7), returns[i]).run(2);
            CHECK.halted("return " + i, y, 4, CODE + 4);
            CHECK.due("return " + i + ": the FRAME stays", y.count(3), 1);
            CHECK.due("return " + i + ": without LOCALS", y.count(6), 0);
            CHECK.due("return " + i + ": its WORD stays", y.word(0, false), 7);
        }
    }

    private static void storing() {
        CHECK.says("1 storew: WORD at a + 2 b becomes c; 2 storeb");
        TaleMachine x = Story.of(Orders.var(Orders.STOREW, 200, 5, 65535)).at(209, 1).at(212, 1).run(1);
        CHECK.due("storew: the byte ahead", x.peek(209), 1);
        CHECK.due("storew", Story.wordOf(x, 210), 65535);
        CHECK.due("storew: the byte behind", x.peek(212), 1);
        TaleMachine y = Story.of(Orders.var(Orders.STOREB, 200, 5, 0x1FE)).at(204, 1).at(206, 1).run(1);
        CHECK.due("storeb: the byte ahead", y.peek(204), 1);
        CHECK.due("storeb: the lower byte", y.peek(205), 0xFE);
        CHECK.due("storeb: the byte behind", y.peek(206), 1);
    }
}
