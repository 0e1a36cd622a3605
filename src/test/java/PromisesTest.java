/** Promises 1 to 13, sentence by sentence. */
public final class PromisesTest {
    private static final Check CHECK = new Check();
    private static final int CODE = Story.CODE, ROUTINE = Story.ROUTINE, MARK = Story.MARK, TEXTS = Story.TEXTS;
    private static final int G0 = Story.G0;
    private static final int LEAST = Integer.MIN_VALUE, MOST = Integer.MAX_VALUE;

    public static void main(String[] args) {
        newObject();
        feed();
        feedFull();
        end();
        endBad();
        loadEmptiesTheTape();
        loadAtItsBeginning();
        loadWithAFault();
        run();
        runBad();
        runNotNow();
        state();
        lineCodes();
        lineAnswers();
        lineNotNow();
        lineHalts();
        start();
        startNotNow();
        out();
        count();
        countBad();
        countNotNow();
        peek();
        wordOfTheStack();
        wordOfLocals();
        text();
        textBad();
        textHalts();
        textChangesNothing();
        refusedChangesNothing();
        CHECK.finish();
    }

    /** A STORY of 128 bytes whose ORDERS, from 100 on, can't be written. */
    private static Story small(int[]... orders) {
        return new Story().word(4, 100).word(6, 100).word(14, 100).at(100, Story.join(orders)).cut(128);
    }

    private static void noStory(String what, TaleMachine x) {
        CHECK.due(what + ": state", x.state(), 0);
        CHECK.due(what + ": run", x.run(0), -2);
        CHECK.due(what + ": line", x.line(0, 0), -2);
        CHECK.due(what + ": start", x.start(), -2);
        CHECK.due(what + ": out", x.out(0), -1);
        for (int i = 0; i <= 8; i++) {
            CHECK.due(what + ": count " + i, x.count(i), -2);
        }
        CHECK.due(what + ": peek", x.peek(0), -1);
        CHECK.due(what + ": word", x.word(0, false), -1);
        CHECK.due(what + ": LOCAL", x.word(1, true), -1);
        CHECK.due(what + ": text", x.text(0, -4), -1);
        CHECK.due(what + ": a code of text", x.text(TEXTS, 0), -1);
        for (int k = 0; k < 4; k++) {
            CHECK.due(what + ": save " + k, x.save(k), -2);
            CHECK.due(what + ": restore " + k, x.restore(k), -2);
            CHECK.due(what + ": squeezed " + k, x.squeezed(k, 0), -1);
        }
    }

    private static void newObject() {
        CHECK.says("TaleMachine(): No STORY, THE TAPE is empty.");
        TaleMachine x = new TaleMachine();
        CHECK.due("THE TAPE", x.count(9), 0);
        noStory("new", x);
        CHECK.due("load", x.load(), -11);
    }

    private static void feed() {
        CHECK.says("feed: 32 bytes come behind THE TAPE, of each number the highest first: how many it has");
        TaleMachine x = new TaleMachine();
        CHECK.due("the first", x.feed(0x03000000, 0x00400000, 0, 0x00000040, 0, 0, 0, 0), 32);
        CHECK.due("the second", x.feed(0, 0, 0, 0, 0, 0, 0, 0), 64);
        CHECK.due("the third", x.feed(0x01020304, 0x85868788, -1, LEAST, MOST, 0x00FF00FF, 0x0A0B0C0D, 0x7F80FF01), 96);
        CHECK.due("load", x.load(), 0);
        int[] want = {1, 2, 3, 4, 0x85, 0x86, 0x87, 0x88, 255, 255, 255, 255, 128, 0, 0, 0, 127, 255, 255, 255,
            0, 255, 0, 255, 10, 11, 12, 13, 127, 128, 255, 1};
        for (int i = 0; i < want.length; i++) {
            CHECK.due("byte " + i, x.peek(64 + i), want[i]);
        }
        CHECK.due("THE MARK", x.count(8), 64);
        CHECK.due("with a STORY, too", x.feed(1, 2, 3, 4, 5, 6, 7, 8), 32);
        CHECK.due("the STORY stays", x.peek(64), 1);
    }

    private static void feedFull() {
        CHECK.says("FULL: more than 1024.");
        TaleMachine x = new TaleMachine();
        for (int n = 1; n <= 32; n++) {
            CHECK.due("feed " + n, x.feed(n, n, n, n, n, n, n, n), 32 * n);
        }
        CHECK.due("feed 33", x.feed(1, 1, 1, 1, 1, 1, 1, 1), -3);
        CHECK.due("nothing came", x.count(9), 1024);
        x.end(993);
        CHECK.due("at 993", x.feed(1, 1, 1, 1, 1, 1, 1, 1), -3);
        CHECK.due("nothing came", x.count(9), 993);
        x.end(992);
        CHECK.due("at 992", x.feed(1, 1, 1, 1, 1, 1, 1, 1), 1024);
        x.end(1);
        CHECK.due("at 1", x.feed(1, 1, 1, 1, 1, 1, 1, 1), 33);
    }

    private static void end() {
        CHECK.says("end: THE TAPE keeps its first n bytes: how many it had");
        TaleMachine x = new TaleMachine();
        CHECK.due("0 of none", x.end(0), 0);
        x.feed(0x03000000, 0x00400000, 0, 0x00000040, 0, 0, 0, 0);
        x.feed(0, 0, 0, 0, 0, 0, 0, 0);
        x.feed(0x01020304, 0, 0, 0, 0, 0, 0, 0);
        CHECK.due("all of them", x.end(96), 96);
        CHECK.due("66", x.end(66), 96);
        CHECK.due("again", x.end(66), 66);
        CHECK.due("65", x.end(65), 66);
        CHECK.due("count", x.count(9), 65);
        CHECK.due("more come behind the first 65", x.feed(0x11121314, 0, 0, 0, 0, 0, 0, 0), 97);
        CHECK.due("load", x.load(), 0);
        CHECK.due("L", x.count(7), 97);
        CHECK.due("the 65th", x.peek(64), 1);
        CHECK.due("behind it", x.peek(65), 0x11);
        x.feed(1, 2, 3, 4, 5, 6, 7, 8);
        CHECK.due("none", x.end(0), 32);
        CHECK.due("count", x.count(9), 0);
    }

    private static void endBad() {
        CHECK.says("end: BAD.");
        TaleMachine x = new TaleMachine();
        CHECK.due("1 of none", x.end(1), -1);
        x.feed(1, 2, 3, 4, 5, 6, 7, 8);
        for (int n : new int[] {-1, 33, 1024, 1025, LEAST, MOST}) {
            CHECK.due("end " + n, x.end(n), -1);
        }
        CHECK.due("nothing changes", x.count(9), 32);
    }

    private static void loadEmptiesTheTape() {
        CHECK.says("load: THE TAPE (empty then) is the STORY");
        TaleMachine x = new TaleMachine();
        CHECK.due("load", small(Orders.none(Orders.QUIT)).loadInto(x), 0);
        CHECK.due("THE TAPE", x.count(9), 0);
        CHECK.due("L", x.count(7), 128);
        CHECK.due("the last byte", x.peek(127), 0);
        CHECK.due("load of an empty one", x.load(), -11);
        CHECK.due("1024 bytes", new Story().at(1023, 9).loaded().peek(1023), 9);
    }

    /** A machine with WORDS, FRAMES, OUTPUT, a slot, a HALT. */
    private static TaleMachine busy() {
        TaleMachine x = Story.of(Orders.push(7), Orders.none(Orders.NEW_LINE), Orders.storeb(70, 9),
                Story.code(0xE7, 0x7F, 100, 0), Orders.call(ROUTINE, 0)).at(ROUTINE, 1, 0, 5, 0xBF).loaded();
        x.save(0);
        x.run(4);
        x.save(1);
        x.run(2);
        CHECK.halted("busy", x, 6, ROUTINE + 3);
        return x;
    }

    private static void loadAtItsBeginning() {
        CHECK.says("load: .. at its beginning (0)");
        TaleMachine x = busy();
        Story next = small(Story.code(0xE7, 0x7F, 100, 0));
        CHECK.due("load", next.loadInto(x), 0);
        int[] want = {0, 0, 0, 1, 100, 0, 0, 128, 100, 0};
        for (int i = 0; i < want.length; i++) {
            CHECK.due("count " + i, x.count(i), want[i]);
        }
        CHECK.due("the state", x.state(), 1);
        CHECK.due("THE OUTPUT", x.out(0), -1);
        CHECK.due("THE STACK", x.word(0, false), -1);
        CHECK.due("LOCALS", x.word(1, true), -1);
        CHECK.due("MEMORY", x.peek(70), 0);
        CHECK.due("slots", x.restore(0), -2);
        CHECK.due("slots squeezed", x.squeezed(1, 0), -1);
        x.run(1);
        CHECK.due("THE DRAW", x.word(0, false), 39);
    }

    private static void loadWithAFault() {
        CHECK.says("load: -10 less its FAULT: there is none then");
        TaleMachine x = busy();
        CHECK.due("load", x.load(), -11);
        CHECK.due("THE TAPE", x.count(9), 0);
        noStory("of no bytes", x);
        TaleMachine y = busy();
        CHECK.due("load of another version", new Story().at(0, 4).loadInto(y), -12);
        CHECK.due("THE TAPE is empty then, too", y.count(9), 0);
        noStory("of another version", y);
        CHECK.due("a good one", small(Orders.none(Orders.QUIT)).loadInto(y), 0);
        CHECK.due("it runs", y.run(1), 2);
    }

    private static void run() {
        CHECK.says("run: At most so many ORDERS (0 to 300): the state then: 1 it can go on, 2 ENDED, 3 WAITS, 4 HALTED");
        TaleMachine x = Story.of(Orders.one(Orders.JUMP, 65535)).loaded();
        int begun = 0;
        for (int fuel : new int[] {0, 1, 2, 299, 300, 0}) {
            begun += fuel;
            CHECK.due("run " + fuel, x.run(fuel), 1);
            CHECK.due("ORDERS begun", x.count(1), begun);
        }
        CHECK.due("ENDED", Story.of(Orders.none(Orders.NOTHING), Orders.none(Orders.QUIT)).loaded().run(2), 2);
        CHECK.due("not yet ENDED", Story.of(Orders.none(Orders.NOTHING), Orders.none(Orders.QUIT)).loaded().run(1), 1);
        CHECK.due("WAITS", Story.of(Orders.var(Orders.READ, 70, 80)).loaded().run(300), 3);
        CHECK.due("HALTED", Story.of(Orders.none(Orders.POP)).loaded().run(300), 4);
        TaleMachine y = Story.of(Orders.none(Orders.NOTHING), Orders.none(Orders.POP), Orders.none(Orders.NEW_LINE)).run(300);
        CHECK.due("no ORDER behind a HALT", y.count(1), 2);
        CHECK.due("nothing told behind it", y.count(0), 0);
    }

    private static void runBad() {
        CHECK.says("run: BAD");
        TaleMachine x = Story.of(Orders.none(Orders.NOTHING)).loaded();
        for (int fuel : new int[] {-1, 301, LEAST, MOST}) {
            CHECK.due("run " + fuel, x.run(fuel), -1);
            CHECK.due("run " + fuel + " of none", new TaleMachine().run(fuel), -1);
        }
        CHECK.due("no ORDER begun", x.count(1), 0);
    }

    private static void runNotNow() {
        CHECK.says("run: STATE: it is not 1; 4 HALTED, for good");
        TaleMachine ended = Story.of(Orders.none(Orders.QUIT)).run(1);
        TaleMachine waits = Story.of(Orders.var(Orders.READ, 70, 80)).run(1);
        TaleMachine halted = Story.of(Orders.none(Orders.POP)).run(1);
        for (int fuel : new int[] {0, 1, 300}) {
            CHECK.due("none, " + fuel, new TaleMachine().run(fuel), -2);
            CHECK.due("ENDED, " + fuel, ended.run(fuel), -2);
            CHECK.due("WAITS, " + fuel, waits.run(fuel), -2);
            CHECK.due("HALTED, " + fuel, halted.run(fuel), -2);
        }
        CHECK.due("it stays HALTED", halted.state(), 4);
        CHECK.due("no more ORDERS begun", halted.count(1), 1);
        CHECK.due("BAD is ahead", halted.run(301), -1);
    }

    private static void state() {
        CHECK.says("state: The state (0: no STORY).");
        CHECK.due("0", new TaleMachine().state(), 0);
        CHECK.due("1", new Story().loaded().state(), 1);
        CHECK.due("2", Story.of(Orders.none(Orders.QUIT)).run(1).state(), 2);
        TaleMachine x = Story.of(Orders.var(Orders.READ, 70, 80)).run(1);
        CHECK.due("3", x.state(), 3);
        x.line(0, 0);
        CHECK.due("1 again", x.state(), 1);
        CHECK.due("4", Story.of(Orders.none(Orders.POP)).run(1).state(), 4);
    }

    private static Story reading() {
        return Story.of(Orders.var(Orders.READ, Story.LINE, Story.WORDS), Orders.none(Orders.QUIT))
                .at(Story.LINE, 8).at(Story.WORDS, 8);
    }

    private static void lineLaid(int a, int b, int... want) {
        TaleMachine x = reading().at(Story.LINE + 1, 99, 99, 99, 99, 99, 99, 99, 99, 99, 99).run(1);
        CHECK.due("line(" + a + ", " + b + ")", x.line(a, b), want.length == 0 ? 0 : 1);
        for (int i = 0; i < want.length; i++) {
            CHECK.due("line(" + a + ", " + b + "): code " + i, x.peek(Story.LINE + 1 + i), want[i]);
        }
        CHECK.due("line(" + a + ", " + b + "): the 0", x.peek(Story.LINE + 1 + want.length), 0);
    }

    private static void lineCodes() {
        CHECK.says("line: Up to eight codes, of each number the highest byte first (up to the first 0 byte)");
        lineLaid(0x61626364, 0x65666768, 'a', 'b', 'c', 'd', 'e', 'f', 'g', 'h');
        lineLaid(0x61626364, 0x65666700, 'a', 'b', 'c', 'd', 'e', 'f', 'g');
        lineLaid(0x61626364, 0, 'a', 'b', 'c', 'd');
        lineLaid(0x61626364, 0x00666768, 'a', 'b', 'c', 'd');
        lineLaid(0x61626300, 0x65666768, 'a', 'b', 'c');
        lineLaid(0x61006364, 0x65666768, 'a');
        lineLaid(0x00626364, 0x65666768);
        lineLaid(0, 0x65666768);
        lineLaid(0, 0);
        lineLaid(-1, -1, 255, 255, 255, 255, 255, 255, 255, 255);
        lineLaid(0x80FF017F, 0x81000000, 128, 255, 1, 127, 129);
        lineLaid(LEAST, LEAST, 128);
        lineLaid(1, 1);
    }

    private static void lineAnswers() {
        CHECK.says("line: how many WORDS were told; the state is 1 then");
        int[] lines = {0, 0x20202020, 0x61000000, 0x61206200, 0x20612062};
        int[] want = {0, 0, 1, 2, 2};
        for (int i = 0; i < lines.length; i++) {
            TaleMachine x = reading().run(1);
            CHECK.due("line " + i, x.line(lines[i], 0), want[i]);
            CHECK.due("line " + i + ": the state", x.state(), 1);
            CHECK.due("line " + i + ": PC", x.count(4), CODE + 6);
            CHECK.due("line " + i + ": ORDERS begun", x.count(1), 1);
            CHECK.due("line " + i + ": it goes on", x.run(1), 2);
        }
        TaleMachine most = reading().at(Story.WORDS, 3).run(1);
        CHECK.due("told, not there", most.line(0x61206220, 0x63206420), 3);
    }

    private static void lineNotNow() {
        CHECK.says("line: STATE: it does not WAIT.");
        CHECK.due("no STORY", new TaleMachine().line(0x61000000, 0), -2);
        TaleMachine x = reading().loaded();
        CHECK.due("it can go on", x.line(0x61000000, 0), -2);
        CHECK.due("nothing is laid", x.peek(Story.LINE + 1), 0);
        x.run(1);
        x.line(0x61000000, 0);
        CHECK.due("a second line", x.line(0x62000000, 0), -2);
        CHECK.due("the first one stays", x.peek(Story.LINE + 1), 'a');
        x.run(1);
        CHECK.due("ENDED", x.line(0x61000000, 0), -2);
        CHECK.due("HALTED", Story.of(Orders.none(Orders.POP)).run(1).line(0x61000000, 0), -2);
    }

    private static void lineHalts() {
        CHECK.says("line: HALTS as told: -10 less it (PC stays).");
        TaleMachine x = reading().word(8, 1024).run(1);
        int pc = x.count(4);
        CHECK.due("HALT 1", x.line(0x61000000, 0), -11);
        CHECK.halted("HALT 1", x, 1, pc);
        TaleMachine y = reading().mark(Story.LINE + 1).run(1);
        CHECK.due("HALT 2", y.line(0x61000000, 0), -12);
        CHECK.halted("HALT 2", y, 2, pc);
        CHECK.due("run then", y.run(1), -2);
        CHECK.due("line then", y.line(0x61000000, 0), -2);
        CHECK.due("save then", y.save(0), -2);
    }

    private static void start() {
        CHECK.says("start: The STORY is at its beginning: MEMORY as it was loaded, nothing on THE STACK, THE OUTPUT empty, "
                + "counts 0, THE DRAW 1: 1.");
        TaleMachine x = busy();
        CHECK.due("of a HALTED one", x.start(), 1);
        int[] want = {0, 0, 0, 1, CODE, 0, 0, 1024, MARK, 0};
        for (int i = 0; i < want.length; i++) {
            CHECK.due("count " + i, x.count(i), want[i]);
        }
        CHECK.due("the state", x.state(), 1);
        CHECK.due("MEMORY", x.peek(70), 0);
        CHECK.due("THE OUTPUT", x.out(0), -1);
        CHECK.due("THE STACK", x.word(0, false), -1);
        CHECK.due("LOCALS", x.word(1, true), -1);
        x.run(4);
        CHECK.due("THE DRAW", x.word(1, false), 39);
        CHECK.due("of one that goes", x.start(), 1);
        CHECK.due("ORDERS begun", x.count(1), 0);
        TaleMachine ended = Story.of(Orders.none(Orders.QUIT)).run(1);
        CHECK.due("of an ENDED one", ended.start(), 1);
        CHECK.due("it runs", ended.run(1), 2);
        TaleMachine waits = reading().run(1);
        CHECK.due("of one that WAITS", waits.start(), 1);
        CHECK.due("it WAITS no more", waits.line(0, 0), -2);
        CHECK.due("of a new one", new Story().loaded().start(), 1);
        TaleMachine taped = new Story().loaded();
        taped.feed(1, 2, 3, 4, 5, 6, 7, 8);
        taped.start();
        CHECK.due("THE TAPE stays", taped.count(9), 32);
    }

    private static void startNotNow() {
        CHECK.says("start: STATE: there is none.");
        CHECK.due("new", new TaleMachine().start(), -2);
        TaleMachine x = busy();
        x.load();
        CHECK.due("behind a FAULT", x.start(), -2);
    }

    private static void out() {
        CHECK.says("out: Code i of THE OUTPUT. BAD.");
        TaleMachine x = Story.of(Orders.none(Orders.PRINT, Story.pack(6, 7, 8))).run(1);
        for (int i = 0; i < 3; i++) {
            CHECK.due("code " + i, x.out(i), 'a' + i);
        }
        for (int i : new int[] {-1, 3, 299, 300, LEAST, MOST}) {
            CHECK.due("code " + i, x.out(i), -1);
        }
        CHECK.due("of an empty one", new Story().loaded().out(0), -1);
        CHECK.due("of none", new TaleMachine().out(0), -1);
        x.run(1);
        CHECK.due("of a HALTED one", x.out(0), 'a');
    }

    private static void count() {
        CHECK.says("count: 0 codes of THE OUTPUT, 1 ORDERS begun, 2 WORDS on THE STACK, 3 FRAMES, 4 PC (of the next ORDER), "
                + "5 the HALT (0: none), 6 LOCALS of the newest FRAME, 7 L, 8 THE MARK, 9 bytes on THE TAPE");
        TaleMachine x = Story.of(Orders.push(7), Orders.none(Orders.NEW_LINE), Orders.call(ROUTINE, 0), Orders.none(Orders.POP))
                .at(ROUTINE, 2, 0, 5, 0, 6, 0xBB, 0xE8, 0x7F, 3, 0xB0).cut(1023).loaded();
        x.feed(1, 2, 3, 4, 5, 6, 7, 8);
        int[][] want = {
            {0, 0, 0, 1, CODE, 0, 0}, {0, 1, 1, 1, CODE + 4, 0, 0}, {1, 2, 1, 1, CODE + 5, 0, 0},
            {1, 3, 1, 2, ROUTINE + 5, 0, 2}, {2, 4, 1, 2, ROUTINE + 6, 0, 2}, {2, 5, 2, 2, ROUTINE + 9, 0, 2},
            {2, 6, 2, 1, CODE + 10, 0, 0}, {2, 7, 1, 1, CODE + 11, 0, 0}, {2, 8, 1, 1, CODE + 11, 6, 0}
        };
        for (int step = 0; step < want.length; step++) {
            for (int what = 0; what < 7; what++) {
                CHECK.due("behind ORDER " + step + ": count " + what, x.count(what), want[step][what]);
            }
            CHECK.due("L", x.count(7), 1023);
            CHECK.due("THE MARK", x.count(8), MARK);
            CHECK.due("THE TAPE", x.count(9), 32);
            x.run(1);
        }
    }

    private static void countBad() {
        CHECK.says("count: BAD");
        for (int what : new int[] {-1, 10, LEAST, MOST}) {
            CHECK.due("count " + what, new Story().loaded().count(what), -1);
            CHECK.due("count " + what + " of none", new TaleMachine().count(what), -1);
        }
    }

    private static void countNotNow() {
        CHECK.says("count: STATE: 0 to 8, and there is no STORY.");
        TaleMachine x = new TaleMachine();
        x.feed(1, 2, 3, 4, 5, 6, 7, 8);
        for (int what = 0; what <= 8; what++) {
            CHECK.due("count " + what, x.count(what), -2);
        }
        CHECK.due("count 9", x.count(9), 32);
    }

    private static void peek() {
        CHECK.says("peek: Byte at an address. BAD: also no STORY.");
        TaleMachine x = small(Orders.storeb(99, 255)).at(127, 77).run(1);
        CHECK.due("the first", x.peek(0), 3);
        CHECK.due("one that was written", x.peek(99), 255);
        CHECK.due("the last", x.peek(127), 77);
        for (int address : new int[] {-1, 128, 1023, 1024, 65535, 65536, LEAST, MOST}) {
            CHECK.due("peek " + address, x.peek(address), -1);
        }
        CHECK.due("no STORY", new TaleMachine().peek(0), -1);
    }

    private static void wordOfTheStack() {
        CHECK.says("word: WORD i of THE STACK (0 the oldest) .. BAD.");
        TaleMachine x = Story.of(Orders.push(7), Orders.call(ROUTINE, 0))
                .at(ROUTINE, Story.join(Story.code(3, 0, 1, 0, 2, 0, 3), Orders.push(65535), Orders.push(0))).run(4);
        CHECK.due("the oldest", x.word(0, false), 7);
        CHECK.due("the next one", x.word(1, false), 65535);
        CHECK.due("the newest", x.word(2, false), 0);
        for (int i : new int[] {-1, 3, 119, 120, LEAST, MOST}) {
            CHECK.due("WORD " + i, x.word(i, false), -1);
        }
        CHECK.due("of an empty one", new Story().loaded().word(0, false), -1);
        CHECK.due("no STORY", new TaleMachine().word(0, false), -1);
        TaleMachine y = Story.of(Orders.push(7), Orders.none(Orders.POP)).run(2);
        CHECK.due("one that went", y.word(0, false), -1);
        TaleMachine full = Story.of(Orders.pushes(120, G0)).loaded();
        full.run(300);
        full.run(59);
        CHECK.due("WORD 119", full.word(119, false), 5);
        CHECK.due("WORD 120", full.word(120, false), -1);
    }

    private static void wordOfLocals() {
        CHECK.says("word: LOCAL i of the newest FRAME (locals; 1 on). BAD.");
        TaleMachine x = Story.of(Orders.call(ROUTINE, 0)).at(ROUTINE, Story.join(Story.code(2, 255, 255, 0, 0), Orders.call(700, 0)))
                .at(700, 15, 0, 101).at(729, 0, 115).loaded();
        CHECK.due("of the first FRAME", x.word(1, true), -1);
        x.run(1);
        CHECK.due("LOCAL 0", x.word(0, true), -1);
        CHECK.due("LOCAL 1", x.word(1, true), 65535);
        CHECK.due("LOCAL 2", x.word(2, true), 0);
        for (int i : new int[] {-1, 3, 15, 16, LEAST, MOST}) {
            CHECK.due("LOCAL " + i, x.word(i, true), -1);
        }
        x.run(1);
        CHECK.due("LOCAL 1 of the newest", x.word(1, true), 101);
        CHECK.due("LOCAL 15 of the newest", x.word(15, true), 115);
        CHECK.due("LOCAL 16", x.word(16, true), -1);
        CHECK.due("no STORY", new TaleMachine().word(1, true), -1);
    }

    /** A TEXT at TEXTS of so many codes: a, the last ones b; ABBREVIATION 5 is 45 of them. */
    private static Story codes(int count) {
        return new Story().at(TEXTS, Story.pack(Story.manyCodes(count))).word(Story.ABBREVIATIONS + 10, 450).at(900, Story.pack(Story.repeat(45, 6)));
    }

    private static void text() {
        CHECK.says("text: Code i of the TEXT at an address (as THE OUTPUT gets them); how many they are (i = NONE).");
        TaleMachine x = new Story().at(TEXTS, Story.pack(4, 6, 5, 7, 5, 6, 3, 31, 5, 6, 0, 0, 0, 31)).at(1022, 0x80, 0).loaded();
        int[] want = {'A', 13, '?', ' ', 'z'};
        CHECK.due("how many", x.text(TEXTS, -4), want.length);
        for (int i = 0; i < want.length; i++) {
            CHECK.due("code " + i, x.text(TEXTS, i), want[i]);
        }
        CHECK.due("the last WORD of MEMORY", x.text(1022, -4), 3);
        CHECK.due("no code at all", new Story().at(TEXTS, Story.pack(5, 5, 5)).loaded().text(TEXTS, -4), 0);
        CHECK.due("200 codes", codes(200).loaded().text(TEXTS, -4), 200);
        CHECK.due("code 199 of 200", codes(200).loaded().text(TEXTS, 199), 'b');
        CHECK.due("code 0 of 200", codes(200).loaded().text(TEXTS, 0), 'a');
    }

    private static void textBad() {
        CHECK.says("text: BAD: also more than 200");
        TaleMachine x = codes(3).loaded();
        for (int i : new int[] {-1, -2, -3, -5, 3, 200, LEAST, MOST}) {
            CHECK.due("code " + i, x.text(TEXTS, i), -1);
        }
        CHECK.due("code 0 of none", new Story().at(TEXTS, Story.pack(5, 5, 5)).loaded().text(TEXTS, 0), -1);
        CHECK.due("code 200 of 200", codes(200).loaded().text(TEXTS, 200), -1);
        for (int many : new int[] {201, 300, 500}) {
            CHECK.due(many + " codes", codes(many).loaded().text(TEXTS, -4), -1);
            CHECK.due(many + " codes: the first", codes(many).loaded().text(TEXTS, 0), -1);
        }
        CHECK.due("no STORY", new TaleMachine().text(0, -4), -1);
        CHECK.due("code -1, ahead of a HALT", x.text(65535, -1), -1);
        CHECK.due("501 codes, ahead of HALT 13", codes(501).loaded().text(TEXTS, -4), -1);
    }

    private static void textHalts() {
        CHECK.says("text: -10 less a HALT.");
        TaleMachine x = new Story().at(1020, 0x18, 0xC6, 0x18, 0xC6).loaded();
        for (int address : new int[] {1020, 1023, 1024, 65535}) {
            CHECK.due("HALT 1 at " + address, x.text(address, -4), -11);
            CHECK.due("HALT 1 at " + address + ", code 0", x.text(address, 0), -11);
            CHECK.due("HALT 1 at " + address + ", code 200", x.text(address, 200), -11);
            CHECK.due("HALT 1 at " + address + ", the greatest code", x.text(address, MOST), -11);
        }
        TaleMachine y = new Story().at(TEXTS, Story.pack(6, 1, 0)).word(Story.ABBREVIATIONS, 350).at(700, Story.pack(1, 0)).loaded();
        CHECK.due("HALT 12", y.text(TEXTS, -4), -22);
        int[] letters = Story.join(Story.repeat(33, 1, 0), Story.repeat(30, 5));
        TaleMachine z = new Story().at(TEXTS, Story.pack(letters)).word(Story.ABBREVIATIONS, 380)
                .at(760, Story.pack(Story.repeat(60, 5))).loaded();
        CHECK.due("HALT 13", z.text(TEXTS, -4), -23);
        TaleMachine fits = new Story().at(TEXTS, Story.pack(Story.repeat(30, 1, 0))).word(Story.ABBREVIATIONS, 380)
                .at(760, Story.pack(Story.repeat(60, 5))).loaded();
        CHECK.due("1860 LETTERS", fits.text(TEXTS, -4), 0);
    }

    private static void textChangesNothing() {
        CHECK.says("text: (it is asked, and changes nothing)");
        TaleMachine x = busy();
        int begun = x.count(1);
        CHECK.due("a HALT of its own", x.text(65535, -4), -11);
        CHECK.due("the HALT stays", x.count(5), 6);
        CHECK.due("THE OUTPUT stays", x.count(0), 1);
        CHECK.due("ORDERS begun stay", x.count(1), begun);
        CHECK.due("the state stays", x.state(), 4);
        TaleMachine y = reading().run(1);
        y.text(65535, 0);
        CHECK.due("one that WAITS: no HALT", y.count(5), 0);
        CHECK.due("it WAITS still", y.line(0x61000000, 0), 1);
        TaleMachine z = Story.of(Orders.none(Orders.PRINT, Story.pack(6, 7, 8))).loaded();
        z.text(65535, 0);
        CHECK.due("run goes on", z.run(1), 1);
        CHECK.told("and tells", z, "abc");
    }

    /** All that can be asked of a small STORY, as one number. */
    private static long all(TaleMachine x) {
        long sum = x.state();
        for (int what = 0; what <= 9; what++) {
            sum = sum * 31 + x.count(what);
        }
        for (int i = 0; i < 128; i++) {
            sum = sum * 31 + x.peek(i);
        }
        for (int i = 0; i < 3; i++) {
            sum = sum * 31 + x.word(i, false) * 7 + x.out(i) + x.squeezed(0, i) + x.squeezed(3, i);
        }
        return sum;
    }

    private static void refusedChangesNothing() {
        CHECK.says("what is refused changes nothing");
        int[][] last = {Orders.none(Orders.NOTHING), Orders.none(Orders.QUIT), Orders.var(Orders.READ, 70, 80), Orders.none(Orders.POP)};
        for (int i = 0; i < last.length; i++) {
            TaleMachine x = small(Story.code(0xE2, 0x57, 70, 0, 9, 0xBB), last[i]).loaded();
            x.feed(1, 2, 3, 4, 5, 6, 7, 8);
            x.run(2);
            x.save(0);
            x.run(1);
            long before = all(x);
            x.end(-1);
            x.end(33);
            x.run(-1);
            x.run(301);
            x.save(-1);
            x.save(4);
            x.restore(-1);
            x.restore(4);
            x.restore(3);
            x.text(65535, -4);
            x.text(0, 9999);
            x.count(10);
            if (i != 2) {
                x.line(0x61000000, 0);
            }
            if (i != 0) {
                x.run(1);
            }
            if (i == 1 || i == 3) {
                x.save(0);
                x.save(3);
            }
            CHECK.due("STORY " + i, all(x), before);
        }
    }
}
