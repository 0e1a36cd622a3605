/** "Terms" 3, sentence by sentence: OBJECTS, ATTRIBUTES, PROPERTIES and the forest. */
public final class TermsThreeObjectsTest {
    private static final Check CHECK = new Check();
    private static final int CODE = Story.CODE, OBJECTS = Story.OBJECTS;
    private static final int NAME = Story.NAMES;
    /** Where PROPERTIES begin behind a name of one WORD. */
    private static final int FIRST = NAME + 3;

    public static void main(String[] args) {
        objectNumbers();
        places();
        attributes();
        sizesAndNumbers();
        theEnd();
        getProp();
        ofMoreBytes();
        withoutOne();
        putProp();
        getPropAddr();
        getPropLen();
        getNextProp();
        firstChild();
        laterChild();
        notMet();
        becomeZero();
        bothAreAsked();
        inserted();
        jin();
        relatives();
        name();
        CHECK.finish();
    }

    private static int place(int o) {
        return Story.FIRST_OBJECT + 9 * (o - 1);
    }

    /** OBJECT 1 has a name of one WORD and these PROPERTIES. */
    private static Story properties(int... bytes) {
        return new Story().object(1, 0, 0, 0, NAME).at(NAME, 1, 0x80, 0).at(FIRST, bytes);
    }

    private static int answer(Story story, int[] order) {
        TaleMachine x = story.at(CODE, order).run(1);
        return x.state() == 4 ? -10 - x.count(5) : x.word(0, false);
    }

    private static int[][] ofObject(int o) {
        return new int[][] {
            Orders.two(Orders.JIN, o, 0, 0xC2), Orders.two(Orders.TEST_ATTR, o, 1, 0xC2), Orders.two(Orders.SET_ATTR, o, 1),
            Orders.two(Orders.CLEAR_ATTR, o, 1), Orders.two(Orders.INSERT_OBJ, o, 1), Orders.two(Orders.INSERT_OBJ, 1, o),
            Orders.two(Orders.GET_PROP, o, 1, 0), Orders.two(Orders.GET_PROP_ADDR, o, 1, 0),
            Orders.two(Orders.GET_NEXT_PROP, o, 0, 0), Orders.one(Orders.GET_SIBLING, o, 0, 0xC2),
            Orders.one(Orders.GET_CHILD, o, 0, 0xC2), Orders.one(Orders.GET_PARENT, o, 0), Orders.one(Orders.REMOVE_OBJ, o),
            Orders.one(Orders.PRINT_OBJ, o), Orders.var(Orders.PUT_PROP, o, 2, 1)
        };
    }

    private static void objectNumbers() {
        CHECK.says("OBJECTS 1 .. 255 (else HALT 9)");
        int far = 65536 + 100 - 62 - 9 * 254;
        for (int i = 0; i < ofObject(0).length; i++) {
            for (int o : new int[] {0, 256, 257, 32768, 65535}) {
                TaleMachine x = properties(0x22, 9, 0).at(CODE, ofObject(o)[i]).run(1);
                CHECK.halted("ORDER " + i + " of OBJECT " + o, x, 9, CODE);
            }
            CHECK.due("ORDER " + i + " of OBJECT 1", properties(0x22, 9, 0).at(CODE, ofObject(1)[i]).run(1).state(), 1);
            // OBJECTS is far above L, and OBJECT 255 at 100 again, as addresses are taken modulo 65536
            Story last = properties(0x22, 9, 0).word(10, far).word(107, NAME).at(CODE, ofObject(255)[i]);
            TaleMachine y = last.run(1);
            boolean needsOne = i == 4 || i == 5 || i == 6;
            CHECK.due("ORDER " + i + " of OBJECT 255", y.count(5), needsOne ? 1 : 0);
        }
    }

    private static void places() {
        CHECK.says("behind 31 WORDS at OBJECTS 9 bytes each");
        for (int o = 1; o <= 5; o++) {
            Story story = new Story().at(OBJECTS + 62 + 9 * (o - 1) + 4, 7, 8, 9);
            CHECK.due("the parent of " + o, answer(story, Orders.one(Orders.GET_PARENT, o, 0)), 7);
            CHECK.due("the sibling of " + o, answer(story, Orders.one(Orders.GET_SIBLING, o, 0, 0xC2)), 8);
            CHECK.due("the child of " + o, answer(story, Orders.one(Orders.GET_CHILD, o, 0, 0xC2)), 9);
        }
        Story cut = new Story().word(10, 1024 - 62 - 9).at(1019, 7);
        CHECK.due("the last bytes of MEMORY", answer(cut, Orders.one(Orders.GET_PARENT, 1, 0)), 7);
        CHECK.due("none behind them", answer(cut, Orders.one(Orders.GET_PARENT, 2, 0)), -11);
    }

    private static void attributes() {
        CHECK.says("four of ATTRIBUTES (0 the highest bit of the first one; not 0 .. 31: HALT 9)");
        for (int n = 0; n < 32; n++) {
            TaleMachine x = Story.of(Orders.two(Orders.SET_ATTR, 2, n), Orders.two(Orders.TEST_ATTR, 2, n, Orders.SKIPS)).run(1);
            for (int k = 0; k < 4; k++) {
                CHECK.due("byte " + k + " with " + n + " set", x.peek(place(2) + k), k == n / 8 ? 128 >> n % 8 : 0);
            }
            x.run(1);
            CHECK.due(n + " is so", x.count(4), CODE + 6 + 7 + 3);
            Story all = Story.of(Orders.two(Orders.CLEAR_ATTR, 2, n), Orders.two(Orders.TEST_ATTR, 2, n, Orders.SKIPS))
                    .at(place(2), 255, 255, 255, 255);
            TaleMachine y = all.run(1);
            CHECK.due(n + " is cleared alone", y.peek(place(2) + n / 8), 255 - (128 >> n % 8));
            y.run(1);
            CHECK.due(n + " is not so", y.count(4), CODE + 6 + 7);
        }
        for (int op = Orders.TEST_ATTR; op <= Orders.CLEAR_ATTR; op++) {
            for (int n : new int[] {32, 255, 256, 65535}) {
                CHECK.halted("ATTRIBUTE " + n + " by " + op, Story.of(Orders.two(op, 1, n, 0xC2)).run(1), 9, CODE);
            }
        }
        CHECK.halted("32 of one out of MEMORY", Story.of(Orders.two(Orders.SET_ATTR, 255, 32)).run(1), 9, CODE);
        CHECK.halted("31 of one out of MEMORY", Story.of(Orders.two(Orders.SET_ATTR, 255, 31)).run(1), 1, CODE);
        CHECK.halted("31 of one above THE MARK", Story.of(Orders.two(Orders.SET_ATTR, 40, 31)).run(1), 2, CODE);
    }

    private static void sizesAndNumbers() {
        CHECK.says("PROPERTIES: a byte 32 (size - 1) + number, so many bytes");
        Story story = properties(0xFF, 1, 2, 3, 4, 5, 6, 7, 8, 0x01, 77, 0);
        CHECK.due("number 31 of 8 bytes", answer(story, Orders.two(Orders.GET_PROP_ADDR, 1, 31, 0)), FIRST + 1);
        CHECK.due("number 1 of one byte behind it", answer(story, Orders.two(Orders.GET_PROP, 1, 1, 0)), 77);
        CHECK.due("its place", answer(story, Orders.two(Orders.GET_PROP_ADDR, 1, 1, 0)), FIRST + 10);
        Story named = new Story().object(1, 0, 0, 0, NAME).at(NAME, 0, 0x05, 66, 0);
        CHECK.due("behind a name of no WORDS", answer(named, Orders.two(Orders.GET_PROP, 1, 5, 0)), 66);
        Story later = new Story().mark(1024).object(1, 0, 0, 0, NAME).at(NAME, 255).at(NAME + 511, 0x05, 66, 0);
        CHECK.due("behind a name of 255 WORDS", answer(later, Orders.two(Orders.GET_PROP, 1, 5, 0)), 66);
    }

    private static void theEnd() {
        CHECK.says("a byte 0 (its low five bits 0) ends");
        for (int end : new int[] {0, 32, 64, 128, 224}) {
            Story story = properties(0x02, 9, end, 0x03, 8, 0x03, 8, 0x03, 8, 0x03, 8, 0x03, 8, 0x03, 8, 0x03, 8).word(OBJECTS + 4, 55);
            CHECK.due("behind " + end, answer(story, Orders.two(Orders.GET_PROP, 1, 3, 0)), 55);
            CHECK.due("the next one is " + end, answer(story, Orders.two(Orders.GET_NEXT_PROP, 1, 2, 0)), 0);
            CHECK.due("the first one is " + end, answer(properties(end), Orders.two(Orders.GET_NEXT_PROP, 1, 0, 0)), 0);
        }
        Story open = new Story().object(1, 0, 0, 0, 1019).at(1019, 0, 0x02, 9, 0x22, 9);
        CHECK.due("no end in MEMORY", answer(open, Orders.two(Orders.GET_PROP, 1, 3, 0)), -11);
    }

    private static void getProp() {
        CHECK.says("get_prop: the byte, WORD of the first with number b");
        Story story = properties(0x05, 255, 0x26, 255, 254, 0x05, 3, 0x26, 0, 4, 0);
        CHECK.due("a byte", answer(story, Orders.two(Orders.GET_PROP, 1, 5, 0)), 255);
        CHECK.due("a WORD", answer(story, Orders.two(Orders.GET_PROP, 1, 6, 0)), 65534);
        Story last = new Story().object(1, 0, 0, 0, 1020).at(1020, 0, 0x25, 1, 2);
        CHECK.due("the last WORD of MEMORY", answer(last, Orders.two(Orders.GET_PROP, 1, 5, 0)), 258);
        Story half = new Story().object(1, 0, 0, 0, 1021).at(1021, 0, 0x25, 1);
        CHECK.due("half of it", answer(half, Orders.two(Orders.GET_PROP, 1, 5, 0)), -11);
    }

    private static void ofMoreBytes() {
        CHECK.says("of more bytes HALT 10");
        for (int size = 3; size <= 8; size++) {
            Story story = properties(32 * (size - 1) + 5, 1, 2, 3, 4, 5, 6, 7, 8);
            CHECK.due("get_prop of " + size, answer(story, Orders.two(Orders.GET_PROP, 1, 5, 0)), -20);
            CHECK.due("put_prop of " + size, answer(story, Orders.var(Orders.PUT_PROP, 1, 5, 1)), -20);
        }
        Story both = properties(0x45, 1, 2, 3, 0x05, 9, 0);
        CHECK.due("the first one counts", answer(both, Orders.two(Orders.GET_PROP, 1, 5, 0)), -20);
    }

    private static void withoutOne() {
        CHECK.says("without one the WORD b - 1 of the 31 (b not 1 .. 31: HALT 10)");
        Story story = properties(0);
        for (int b = 1; b <= 31; b++) {
            story.word(OBJECTS + 2 * (b - 1), 1000 + b);
        }
        for (int b = 1; b <= 31; b++) {
            CHECK.due("number " + b, answer(story, Orders.two(Orders.GET_PROP, 1, b, 0)), 1000 + b);
        }
        for (int b : new int[] {0, 32, 33, 256, 257, 65535}) {
            CHECK.due("number " + b, answer(story, Orders.two(Orders.GET_PROP, 1, b, 0)), -20);
        }
        Story other = properties(0x05, 9, 0);
        CHECK.due("32 more than a number", answer(other, Orders.two(Orders.GET_PROP, 1, 37, 0)), -20);
        CHECK.due("number 32, of no OBJECT", answer(other, Orders.two(Orders.GET_PROP, 0, 32, 0)), -19);
        Story nameless = new Story().object(1, 0, 0, 0, Story.SIZE);
        CHECK.due("number 32, of none that can be looked at", answer(nameless, Orders.two(Orders.GET_PROP, 1, 32, 0)), -11);
    }

    private static void putProp() {
        CHECK.says("put_prop likewise; without: HALT 10");
        Story story = properties(0x05, 7, 0x26, 7, 7, 0x01, 7, 0x05, 7, 0);
        TaleMachine x = story.at(CODE, Orders.var(Orders.PUT_PROP, 1, 5, 0x1234)).run(1);
        CHECK.due("a byte: the lower one", x.peek(FIRST + 1), 0x34);
        CHECK.due("the one behind stays", x.peek(FIRST + 2), 0x26);
        CHECK.due("the second with that number stays", x.peek(FIRST + 8), 7);
        TaleMachine y = story.at(CODE, Orders.var(Orders.PUT_PROP, 1, 6, 0x1234)).run(1);
        CHECK.due("a WORD", y.peek(FIRST + 3) * 256 + y.peek(FIRST + 4), 0x1234);
        TaleMachine z = story.at(CODE, Orders.var(Orders.PUT_PROP, 1, 1, 9)).run(1);
        CHECK.due("number 1", z.peek(FIRST + 6), 9);
        for (int b : new int[] {0, 2, 31, 32, 37, 65535}) {
            CHECK.due("number " + b, answer(story, Orders.var(Orders.PUT_PROP, 1, b, 9)), -20);
        }
        CHECK.halted("a byte at THE MARK", story.mark(FIRST + 1).at(CODE, Orders.var(Orders.PUT_PROP, 1, 5, 9)).run(1), 2, CODE);
        CHECK.halted("a WORD over it", story.mark(FIRST + 4).at(CODE, Orders.var(Orders.PUT_PROP, 1, 6, 9)).run(1), 2, CODE);
    }

    private static void getPropAddr() {
        CHECK.says("get_prop_addr: where its bytes begin, or 0");
        Story story = properties(0xE5, 1, 2, 3, 4, 5, 6, 7, 8, 0x01, 9, 0x05, 7, 0);
        CHECK.due("the first with number 5", answer(story, Orders.two(Orders.GET_PROP_ADDR, 1, 5, 0)), FIRST + 1);
        CHECK.due("number 1", answer(story, Orders.two(Orders.GET_PROP_ADDR, 1, 1, 0)), FIRST + 10);
        for (int b : new int[] {0, 2, 31, 32, 37, 65535}) {
            CHECK.due("number " + b, answer(story, Orders.two(Orders.GET_PROP_ADDR, 1, b, 0)), 0);
        }
    }

    private static void getPropLen() {
        CHECK.says("get_prop_len: of an address 0: 0; else the size by the byte ahead");
        CHECK.due("0", answer(new Story(), Orders.one(Orders.GET_PROP_LEN, 0, 0)), 0);
        for (int size = 1; size <= 8; size++) {
            Story story = properties(32 * (size - 1) + 31);
            CHECK.due("size " + size, answer(story, Orders.one(Orders.GET_PROP_LEN, FIRST + 1, 0)), size);
        }
        CHECK.due("of 1", answer(new Story(), Orders.one(Orders.GET_PROP_LEN, 1, 0)), 1);
        CHECK.due("of L", answer(new Story().at(1023, 0x40), Orders.one(Orders.GET_PROP_LEN, 1024, 0)), 3);
        CHECK.due("behind L", answer(new Story(), Orders.one(Orders.GET_PROP_LEN, 1025, 0)), -11);
    }

    private static void getNextProp() {
        CHECK.says("get_next_prop: of b 0 the first number, else that behind the first with number b (none such: HALT 10); 0 at the end");
        Story story = properties(0xFF, 1, 2, 3, 4, 5, 6, 7, 8, 0x01, 9, 0x1F, 9, 0x27, 1, 2, 0);
        CHECK.due("of 0", answer(story, Orders.two(Orders.GET_NEXT_PROP, 1, 0, 0)), 31);
        CHECK.due("of the first 31", answer(story, Orders.two(Orders.GET_NEXT_PROP, 1, 31, 0)), 1);
        CHECK.due("of 1", answer(story, Orders.two(Orders.GET_NEXT_PROP, 1, 1, 0)), 31);
        CHECK.due("of the last one", answer(story, Orders.two(Orders.GET_NEXT_PROP, 1, 7, 0)), 0);
        for (int b : new int[] {2, 32, 33, 63, 256, 65535}) {
            CHECK.due("of " + b, answer(story, Orders.two(Orders.GET_NEXT_PROP, 1, b, 0)), -20);
        }
        CHECK.due("of 0 without any", answer(properties(0), Orders.two(Orders.GET_NEXT_PROP, 1, 0, 0)), 0);
        CHECK.due("of 1 without any", answer(properties(0), Orders.two(Orders.GET_NEXT_PROP, 1, 1, 0)), -20);
    }

    /** OBJECT 1 holds 2, 3 and 4, in this order; 5 is alone, with a sibling and a child. */
    private static Story forest(int[]... orders) {
        return Story.of(orders).object(1, 0, 0, 2, NAME).object(2, 1, 3, 7, NAME).object(3, 1, 4, 8, NAME)
                .object(4, 1, 0, 9, NAME).object(5, 0, 6, 7, NAME);
    }

    private static void links(String what, TaleMachine x, int o, int parent, int sibling, int child) {
        CHECK.due(what + ": the parent of " + o, x.peek(place(o) + 4), parent);
        CHECK.due(what + ": the sibling of " + o, x.peek(place(o) + 5), sibling);
        CHECK.due(what + ": the child of " + o, x.peek(place(o) + 6), child);
    }

    private static void firstChild() {
        CHECK.says("remove_obj: if it has a parent: the child of that, if it is that, becomes its sibling");
        TaleMachine x = forest(Orders.one(Orders.REMOVE_OBJ, 2)).run(1);
        links("the first of three", x, 1, 0, 0, 3);
        links("the first of three", x, 2, 0, 0, 7);
        links("the first of three", x, 3, 1, 4, 8);
        TaleMachine y = forest(Orders.one(Orders.REMOVE_OBJ, 2)).object(2, 1, 0, 7, NAME).run(1);
        links("the only one", y, 1, 0, 0, 0);
    }

    private static void laterChild() {
        CHECK.says("else of the siblings from that child on the one ahead of it gets its sibling");
        TaleMachine x = forest(Orders.one(Orders.REMOVE_OBJ, 3)).run(1);
        links("the second", x, 1, 0, 0, 2);
        links("the second", x, 2, 1, 4, 7);
        links("the second", x, 3, 0, 0, 8);
        links("the second", x, 4, 1, 0, 9);
        TaleMachine y = forest(Orders.one(Orders.REMOVE_OBJ, 4)).run(1);
        links("the last", y, 2, 1, 3, 7);
        links("the last", y, 3, 1, 0, 8);
        links("the last", y, 4, 0, 0, 9);
        TaleMachine z = manyChildren(95).run(1);
        CHECK.due("the 94th of 94: the state", z.state(), 1);
        CHECK.due("the one ahead", z.peek(126 + 9 * 93 + 5), 0);
        CHECK.due("the one ahead of that", z.peek(126 + 9 * 92 + 5), 94);
    }

    /** OBJECT 1 holds all others, up to the last one, which is removed. */
    private static Story manyChildren(int last) {
        Story story = new Story().mark(1000).word(10, 64).word(6, 1000).at(1000, Orders.one(Orders.REMOVE_OBJ, last)).at(132, 2);
        for (int o = 2; o <= last; o++) {
            story.at(126 + 9 * (o - 1) + 4, 1, o < last ? o + 1 : 0);
        }
        return story;
    }

    private static void notMet() {
        CHECK.says("(HALT 11, if it is not met within 255)");
        TaleMachine x = forest(Orders.one(Orders.REMOVE_OBJ, 5)).object(5, 1, 6, 7, NAME).run(1);
        CHECK.halted("siblings that end", x, 11, CODE);
        links("nothing has changed", x, 5, 1, 6, 7);
        links("nothing has changed", x, 4, 1, 0, 9);
        CHECK.halted("siblings in a ring", forest(Orders.one(Orders.REMOVE_OBJ, 5)).object(5, 1, 6, 7, NAME)
                .object(4, 1, 2, 0, NAME).run(1), 11, CODE);
        CHECK.halted("a sibling of its own", forest(Orders.one(Orders.REMOVE_OBJ, 5)).object(5, 1, 6, 7, NAME)
                .object(2, 1, 2, 0, NAME).run(1), 11, CODE);
        CHECK.halted("a parent without a child", forest(Orders.one(Orders.REMOVE_OBJ, 5)).object(5, 1, 6, 7, NAME)
                .object(1, 0, 0, 0, NAME).run(1), 11, CODE);
        CHECK.halted("inserted", forest(Orders.two(Orders.INSERT_OBJ, 5, 2)).object(5, 1, 6, 7, NAME).run(1), 11, CODE);
        CHECK.halted("a sibling out of MEMORY", forest(Orders.one(Orders.REMOVE_OBJ, 5)).object(5, 1, 6, 7, NAME)
                .object(4, 1, 200, 0, NAME).run(1), 1, CODE);
    }

    private static void becomeZero() {
        CHECK.says("then its parent, then its sibling become 0 (of one without a parent, too)");
        links("without a parent", forest(Orders.one(Orders.REMOVE_OBJ, 5)).run(1), 5, 0, 0, 7);
        TaleMachine x = forest(Orders.one(Orders.REMOVE_OBJ, 4)).mark(place(4) + 5).run(1);
        CHECK.halted("the sibling can't be written", x, 2, CODE);
        links("its parent has become 0", x, 4, 0, 0, 9);
        links("the one ahead has its sibling", x, 3, 1, 0, 8);
        TaleMachine y = forest(Orders.one(Orders.REMOVE_OBJ, 4)).mark(place(4) + 4).run(1);
        CHECK.halted("the parent can't be written", y, 2, CODE);
        links("it stays", y, 4, 1, 0, 9);
        links("the one ahead has its sibling all the same", y, 3, 1, 0, 8);
    }

    private static void bothAreAsked() {
        CHECK.says("insert_obj: both are asked");
        for (int b : new int[] {0, 256, 65535}) {
            TaleMachine x = forest(Orders.two(Orders.INSERT_OBJ, 3, b)).run(1);
            CHECK.halted("into " + b, x, 9, CODE);
            links("3 is not removed", x, 3, 1, 4, 8);
            links("2 stays", x, 2, 1, 3, 7);
            CHECK.halted(b + " into 1", forest(Orders.two(Orders.INSERT_OBJ, b, 1)).run(1), 9, CODE);
        }
    }

    private static void inserted() {
        CHECK.says("a is so removed, then gets the parent b, the child of b as sibling, b the child a");
        TaleMachine x = forest(Orders.two(Orders.INSERT_OBJ, 3, 5)).run(1);
        links("3 into 5", x, 3, 5, 7, 8);
        links("3 into 5", x, 5, 0, 6, 3);
        links("3 into 5", x, 2, 1, 4, 7);
        TaleMachine y = forest(Orders.two(Orders.INSERT_OBJ, 2, 1)).run(1);
        links("the first child again", y, 1, 0, 0, 2);
        links("the first child again", y, 2, 1, 3, 7);
        TaleMachine z = forest(Orders.two(Orders.INSERT_OBJ, 5, 5)).run(1);
        links("into itself", z, 5, 5, 7, 5);
        TaleMachine v = forest(Orders.two(Orders.INSERT_OBJ, 1, 5)).mark(place(5) + 6).run(1);
        CHECK.halted("the child of b can't be written", v, 2, CODE);
        links("a has its parent and its sibling", v, 1, 5, 7, 2);
        links("b stays", v, 5, 0, 6, 7);
        // OBJECT 6 is above THE MARK: its parent is the first that can't be written
        TaleMachine w = forest(Orders.two(Orders.INSERT_OBJ, 6, 1)).mark(place(6)).run(1);
        CHECK.halted("a can't be written", w, 2, CODE);
        links("b stays", w, 1, 0, 0, 2);
        TaleMachine far = forest(Orders.two(Orders.INSERT_OBJ, 3, 255)).run(1);
        CHECK.halted("the child of b is not in MEMORY", far, 1, CODE);
        links("a is removed, and has its parent", far, 3, 255, 0, 8);
        links("the one ahead of it has its sibling", far, 2, 1, 4, 7);
    }

    private static void jin() {
        CHECK.says("6 jin? the parent of a is b; jin: b is any number");
        int[] others = {0, 2, 255, 256, 257, 65535};
        for (int b : others) {
            CHECK.due("3 in " + b, forest(Orders.two(Orders.JIN, 3, b, Orders.SKIPS)).run(1).count(4), CODE + 7);
        }
        CHECK.due("3 in 1", forest(Orders.two(Orders.JIN, 3, 1, Orders.SKIPS)).run(1).count(4), CODE + 10);
        CHECK.due("1 in 0", forest(Orders.two(Orders.JIN, 1, 0, Orders.SKIPS)).run(1).count(4), CODE + 10);
        CHECK.halted("0 in 0", forest(Orders.two(Orders.JIN, 0, 0, Orders.SKIPS)).run(1), 9, CODE);
    }

    private static void relatives() {
        CHECK.says("1 get_sibling s?, 2 get_child s? (so if not 0); 3 get_parent s");
        int[] objects = {2, 4};
        int[][] want = {{3, 7, 1}, {0, 9, 1}};
        for (int i = 0; i < 2; i++) {
            TaleMachine x = forest(Orders.one(Orders.GET_SIBLING, objects[i], 0, Orders.SKIPS)).run(1);
            CHECK.due("the sibling", x.word(0, false), want[i][0]);
            CHECK.due("so if not 0", x.count(4), want[i][0] == 0 ? CODE + 5 : CODE + 8);
            TaleMachine y = forest(Orders.one(Orders.GET_CHILD, objects[i], 0, Orders.SKIPS)).run(1);
            CHECK.due("the child", y.word(0, false), want[i][1]);
            CHECK.due("so", y.count(4), CODE + 8);
            CHECK.due("the parent", forest(Orders.one(Orders.GET_PARENT, objects[i], 0)).run(1).word(0, false), want[i][2]);
        }
        TaleMachine z = forest(Orders.one(Orders.GET_CHILD, 1, 0, Orders.SKIPS)).object(1, 0, 0, 0, NAME).run(1);
        CHECK.due("no child", z.word(0, false), 0);
        CHECK.due("not so", z.count(4), CODE + 5);
        TaleMachine v = forest(Orders.one(Orders.GET_CHILD, 1, 0, Orders.SKIPS)).object(1, 0, 0, 255, NAME).run(1);
        CHECK.due("a child 255", v.word(0, false), 255);
        CHECK.due("PC behind get_parent", forest(Orders.one(Orders.GET_PARENT, 1, 0)).run(1).count(4), CODE + 4);
    }

    private static void name() {
        CHECK.says("10 print_obj (its name)");
        Story story = new Story().object(1, 0, 0, 0, NAME).at(NAME, Story.join(Story.code(1), Story.pack(6, 7, 8)));
        TaleMachine x = story.at(CODE, Orders.one(Orders.PRINT_OBJ, 1)).run(1);
        CHECK.told("one WORD", x, "abc");
        CHECK.due("PC", x.count(4), CODE + 3);
        CHECK.halted("a name out of MEMORY", story.object(1, 0, 0, 0, 1023).run(1), 1, CODE);
    }
}
