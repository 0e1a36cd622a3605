/** "Terms" 1, sentence by sentence: WORDS, MEMORY and its HALTS, FAULTS. */
public final class TermsOneTest {
    private static final Check CHECK = new Check();
    private static final int CODE = Story.CODE, MARK = Story.MARK, L = Story.SIZE;
    private static final int G0 = Story.G0;
    private static final int PLACE = 200;

    public static void main(String[] args) {
        words();
        signedNumbers();
        modulo();
        writable();
        asLoaded();
        addresses();
        noneBelowL();
        atTheMark();
        oneAhead();
        writtenWords();
        askedFirst();
        whatItDidStays();
        pcIsThatOrders();
        shortStory();
        version();
        theMark();
        wordAtFour();
        firstPc();
        length();
        sum();
        leastFault();
        CHECK.finish();
    }

    /** What an ORDER leaves on THE STACK, or -10 less its HALT. */
    private static int answer(int[] order) {
        return answer(Story.of(order));
    }

    private static int answer(Story story) {
        TaleMachine x = story.run(1);
        return x.state() == 4 ? -10 - x.count(5) : x.word(0, false);
    }

    private static boolean branches(int op, int a, int b) {
        return Story.of(Orders.two(op, a, b, Orders.SKIPS)).run(1).count(4) == CODE + 10;
    }

    private static void words() {
        CHECK.says("WORDS are two bytes, the higher first; as numbers 0 .. 65535");
        TaleMachine x = Story.of(Orders.storew(PLACE, 0xFFFE)).run(1);
        CHECK.due("the higher byte", x.peek(PLACE), 255);
        CHECK.due("the lower byte", x.peek(PLACE + 1), 254);
        CHECK.due("65535", answer(Orders.push(65535)), 65535);
        CHECK.due("32768 of MEMORY", answer(Story.of(Orders.two(Orders.LOADW, PLACE, 0, 0)).word(PLACE, 32768)), 32768);
        CHECK.due("0", answer(Orders.push(0)), 0);
    }

    private static void signedNumbers() {
        CHECK.says("SIGNED: above 32767 less 65536");
        CHECK.so("32768 is below 32767", branches(Orders.JL, 32768, 32767), true);
        CHECK.so("32767 is not below 32768", branches(Orders.JL, 32767, 32768), false);
        CHECK.so("32767 is above 32768", branches(Orders.JG, 32767, 32768), true);
        CHECK.so("65535 is below 0", branches(Orders.JL, 65535, 0), true);
        CHECK.told("32767", Story.of(Orders.var(Orders.PRINT_NUM, 32767)).run(1), "32767");
        CHECK.told("32768", Story.of(Orders.var(Orders.PRINT_NUM, 32768)).run(1), "-32768");
        CHECK.told("65535", Story.of(Orders.var(Orders.PRINT_NUM, 65535)).run(1), "-1");
        CHECK.due("32768 by 2", answer(Orders.two(Orders.DIV, 32768, 2, 0)), 49152);
        CHECK.due("32767 by 2", answer(Orders.two(Orders.DIV, 32767, 2, 0)), 16383);
    }

    private static void modulo() {
        CHECK.says("what is worked is taken modulo 65536");
        CHECK.due("65535 and 1", answer(Orders.two(Orders.ADD, 65535, 1, 0)), 0);
        CHECK.due("65535 and 65535", answer(Orders.two(Orders.ADD, 65535, 65535, 0)), 65534);
        CHECK.due("0 less 1", answer(Orders.two(Orders.SUB, 0, 1, 0)), 65535);
        CHECK.due("0 less 65535", answer(Orders.two(Orders.SUB, 0, 65535, 0)), 1);
        CHECK.due("256 times 256", answer(Orders.two(Orders.MUL, 256, 256, 0)), 0);
        CHECK.due("65535 times 65535", answer(Orders.two(Orders.MUL, 65535, 65535, 0)), 1);
        CHECK.due("-32768 by -1", answer(Orders.two(Orders.DIV, 32768, 65535, 0)), 32768);
        CHECK.due("not 0", answer(Orders.one(Orders.NOT, 0, 0)), 65535);
        TaleMachine x = Story.of(Orders.one(Orders.INC, G0), Orders.one(Orders.DEC, G0)).global(0, 65535).run(1);
        CHECK.due("65535 more by 1", x.peek(64) * 256 + x.peek(65), 0);
        x.run(1);
        CHECK.due("0 less by 1", x.peek(64) * 256 + x.peek(65), 65535);
    }

    private static void writes(String what, Story story, int address) {
        TaleMachine x = story.at(CODE, Orders.storeb(address, 99)).run(1);
        CHECK.due(what + ": the state", x.state(), 1);
        CHECK.due(what + ": the byte", x.peek(address), 99);
    }

    private static void refuses(String what, Story story, int address, int halt) {
        TaleMachine x = story.at(CODE, Orders.storeb(address, 99)).run(1);
        CHECK.halted(what, x, halt, CODE);
        CHECK.due(what + ": the byte", x.peek(address), address < story.size() ? story.byteAt(address) : -1);
    }

    private static void writable() {
        CHECK.says("those below THE MARK (the WORD at 14) can be written");
        writes("byte 0", new Story(), 0);
        writes("below THE MARK", new Story(), MARK - 1);
        refuses("THE MARK", new Story(), MARK, 2);
        writes("below the least MARK", new Story().mark(64), 63);
        refuses("the least MARK", new Story().mark(64), 64, 2);
        writes("all of it", new Story().mark(L), L - 1);
    }

    private static void asLoaded() {
        CHECK.says("these, and THE MARK, as they were when it was loaded");
        TaleMachine mark = Story.of(Orders.storew(14, L), Orders.storeb(MARK, 99)).run(1);
        CHECK.due("the WORD at 14", mark.peek(14), L >> 8);
        CHECK.due("THE MARK", mark.count(8), MARK);
        mark.run(1);
        CHECK.halted("a byte at THE MARK", mark, 2, CODE + 8);
        TaleMachine globals = Story.of(Orders.storew(12, 0), Story.code(0xA0 | Orders.LOAD, G0, 0)).global(0, 17)
                .global(1, 77).run(2);
        CHECK.due("GLOBALS", globals.word(0, false), 77);
        TaleMachine objects = Story.of(Orders.storew(10, 0), Orders.one(Orders.GET_PARENT, 1, 0)).object(1, 7, 0, 0, 0).run(2);
        CHECK.due("OBJECTS", objects.word(0, false), 7);
        Story told = Story.of(Orders.storew(24, 0), Orders.none(Orders.PRINT, Story.pack(1, 0)))
                .word(Story.ABBREVIATIONS, Story.TEXTS / 2).at(Story.TEXTS, Story.spell("the"));
        CHECK.told("ABBREVIATIONS", told.run(2), "the");
        TaleMachine reads = Story.of(Orders.storew(8, 65535), Orders.var(Orders.READ, Story.LINE, Story.WORDS))
                .at(Story.LINE, 8).at(Story.WORDS, 4).run(2);
        CHECK.due("DICTIONARY", reads.line('a' << 24, 0), 1);
        TaleMachine pc = Story.of(Orders.storew(6, 0), Orders.none(Orders.RESTART)).run(2);
        CHECK.due("PC at first", pc.count(4), CODE);
    }

    private static void addresses() {
        CHECK.says("A byte, WORD is read of an address taken modulo 65536 (a WORD: its second byte of the next one)");
        Story story = new Story().at(1, 44);
        CHECK.due("the byte at 65536", answer(story.at(CODE, Orders.two(Orders.LOADB, 65535, 1, 0))), 3);
        CHECK.due("the byte at 65537", answer(story.at(CODE, Orders.two(Orders.LOADB, 2, 65535, 0))), 44);
        CHECK.due("the WORD at 65536", answer(story.at(CODE, Orders.two(Orders.LOADW, 65534, 1, 0))), 3 * 256 + 44);
        CHECK.due("the WORD at 131072", answer(story.at(CODE, Orders.two(Orders.LOADW, 65534, 32769, 0))), 3 * 256 + 44);
        CHECK.due("the WORD at 65535", answer(story.at(CODE, Orders.two(Orders.LOADW, 65535, 0, 0))), -11);
        TaleMachine x = Story.of(Orders.var(Orders.STOREB, 65535, PLACE + 1, 99)).run(1);
        CHECK.due("a byte is written so, too", x.peek(PLACE), 99);
        TaleMachine y = Story.of(Orders.var(Orders.STOREW, PLACE, 32768, 0x1234)).run(1);
        CHECK.due("and a WORD", y.peek(PLACE) * 256 + y.peek(PLACE + 1), 0x1234);
    }

    private static void noneBelowL() {
        CHECK.says("of none below L: HALT 1");
        for (int size : new int[] {800, 801, 1023, 1024}) {
            Story story = new Story().at(size - 2, 12, 34).cut(size);
            CHECK.due("the last byte of " + size, answer(story.at(CODE, Orders.two(Orders.LOADB, size - 1, 0, 0))), 34);
            CHECK.due("the byte at " + size, answer(story.at(CODE, Orders.two(Orders.LOADB, size, 0, 0))), -11);
            CHECK.due("the last WORD of " + size, answer(story.at(CODE, Orders.two(Orders.LOADW, size - 2, 0, 0))), 12 * 256 + 34);
            CHECK.due("half a WORD of " + size, answer(story.at(CODE, Orders.two(Orders.LOADW, size - 1, 0, 0))), -11);
            CHECK.due("the WORD at " + size, answer(story.at(CODE, Orders.two(Orders.LOADW, size, 0, 0))), -11);
        }
        CHECK.due("the byte at 65535", answer(Orders.two(Orders.LOADB, 65535, 0, 0)), -11);
        CHECK.halted("an ORDER at L", Story.atEnd(0xB4).run(2), 1, L);
    }

    private static void atTheMark() {
        CHECK.says("written at or above THE MARK: HALT 2");
        refuses("at THE MARK", new Story(), MARK, 2);
        refuses("above it", new Story(), MARK + 1, 2);
        refuses("the last byte", new Story(), L - 1, 2);
        refuses("the last MARK but one", new Story().mark(L - 1), L - 1, 2);
    }

    private static void oneAhead() {
        CHECK.says("HALT 2 (1 ahead ..");
        refuses("L", new Story(), L, 1);
        refuses("65535", new Story(), 65535, 1);
        refuses("L, all of it writable", new Story().mark(L), L, 1);
        refuses("L of a shorter one", new Story().cut(800), 800, 1);
    }

    private static void refusesWord(String what, Story story, int address, int halt) {
        TaleMachine x = story.at(CODE, Orders.storew(address, 0x6363)).run(1);
        CHECK.halted(what, x, halt, CODE);
        for (int at = address & 65535; at <= address + 1 && at < story.size(); at++) {
            CHECK.due(what + ": the byte " + at, x.peek(at), story.byteAt(at));
        }
    }

    private static void writtenWords() {
        CHECK.says("a WORD is written if both its bytes can be");
        TaleMachine x = Story.of(Orders.storew(MARK - 2, 0x1234)).run(1);
        CHECK.due("the last one: the higher byte", x.peek(MARK - 2), 0x12);
        CHECK.due("the last one: the lower byte", x.peek(MARK - 1), 0x34);
        refusesWord("over THE MARK", new Story().at(MARK - 1, 9, 8), MARK - 1, 2);
        refusesWord("over L", new Story().mark(L), L - 1, 1);
        refusesWord("at THE MARK", new Story(), MARK, 2);
    }

    private static void askedFirst() {
        CHECK.says("the first one is asked first");
        refusesWord("above THE MARK, and L", new Story(), L - 1, 2);
        refusesWord("at THE MARK, and L", new Story().mark(L - 1), L - 1, 2);
        refusesWord("65535, and 0", new Story(), 65535, 1);
        CHECK.due("0 is not written then", Story.of(Orders.storew(65535, 9)).run(1).peek(0), 3);
    }

    private static void whatItDidStays() {
        CHECK.says("A HALT ends an ORDER where it comes: what it did stays");
        TaleMachine x = Story.of(Orders.push(5), Story.code(0x75, 0, 0, 0)).run(2);
        CHECK.halted("the second operand is not there", x, 4, CODE + 4);
        CHECK.due("the first one went", x.count(2), 0);
        TaleMachine y = Story.atEnd(0xB2, 0x18, 0xC6, 0x18).run(1);
        CHECK.told("a TEXT without an end", y, "aaa");
        TaleMachine z = new Story(0xE6, 0xBF, 1).run(1);
        CHECK.halted("print_num of a LOCAL that is not there", z, 5, CODE);
        CHECK.due("nothing is told behind the HALT", z.count(0), 0);
        TaleMachine v = new Story(0xE4, 0x9F, 1, 70).run(1);
        CHECK.halted("read of a LOCAL that is not there", v, 5, CODE);
        CHECK.due("it does not WAIT", v.line(0, 0), -2);
    }

    private static void pcIsThatOrders() {
        CHECK.says("PC is that ORDER's");
        TaleMachine x = Story.of(Orders.none(Orders.NOTHING), Orders.two(Orders.DIV, 1, 0, 0)).run(300);
        CHECK.halted("the second ORDER", x, 7, CODE + 1);
        CHECK.due("both are begun", x.count(1), 2);
        TaleMachine y = Story.of(Orders.call(Story.ROUTINE, 3)).at(Story.ROUTINE, 0, 0xB0).run(2);
        CHECK.halted("a FRAME that is left", y, 5, Story.ROUTINE + 1);
        CHECK.due("it is gone", y.count(3), 1);
    }

    private static void fault(String what, Story story, int fault) {
        TaleMachine x = new TaleMachine();
        CHECK.due(what, story.loadInto(x), fault == 0 ? 0 : -10 - fault);
        CHECK.due(what + ": the state", x.state(), fault == 0 ? 1 : 0);
    }

    private static void shortStory() {
        CHECK.says("1 L is below 64");
        CHECK.due("no bytes", new TaleMachine().load(), -11);
        fault("1 byte", new Story().cut(1), 1);
        fault("63 bytes", new Story().mark(64).word(4, 64).word(6, 0).cut(63), 1);
        fault("64 bytes", new Story().mark(64).word(4, 64).word(6, 0).cut(64), 0);
    }

    private static void version() {
        CHECK.says("2 byte 0 is not 3");
        for (int version : new int[] {0, 1, 2, 4, 5, 131, 255}) {
            fault("version " + version, new Story().at(0, version), 2);
        }
        fault("version 3", new Story(), 0);
    }

    private static void theMark() {
        CHECK.says("3 THE MARK is not 64 .. L");
        fault("0", new Story().mark(0), 3);
        fault("63", new Story().mark(63), 3);
        fault("64", new Story().mark(64), 0);
        fault("L", new Story().mark(L), 0);
        fault("L and 1", new Story().mark(L + 1), 3);
        fault("65535", new Story().mark(65535), 3);
        fault("L of a shorter one", new Story().mark(800).cut(800), 0);
        fault("L and 1 of a shorter one", new Story().mark(801).cut(800), 3);
    }

    private static void wordAtFour() {
        CHECK.says("4 the WORD at 4 is below THE MARK, or above L");
        fault("0", new Story().word(4, 0), 4);
        fault("below THE MARK", new Story().word(4, MARK - 1), 4);
        fault("THE MARK", new Story().word(4, MARK), 0);
        fault("L", new Story().word(4, L), 0);
        fault("above L", new Story().word(4, L + 1), 4);
        fault("65535", new Story().word(4, 65535), 4);
        fault("L of a shorter one", new Story().word(4, 800).cut(800), 0);
        fault("above L of a shorter one", new Story().word(4, 801).cut(800), 4);
    }

    private static void firstPc() {
        CHECK.says("5 PC is not below L");
        fault("0", new Story().word(6, 0), 0);
        fault("L less 1", new Story().word(6, L - 1), 0);
        fault("L", new Story().word(6, L), 5);
        fault("65535", new Story().word(6, 65535), 5);
        fault("L of a shorter one", new Story().word(6, 800).cut(800), 5);
    }

    private static void length() {
        CHECK.says("6 twice the WORD at 26 is neither 0 nor L");
        Story story = new Story();
        story.word(28, story.sum());
        fault("0", story.word(26, 0), 0);
        fault("half of L", story.word(26, L / 2), 0);
        fault("1 less", story.word(26, L / 2 - 1), 6);
        fault("1 more", story.word(26, L / 2 + 1), 6);
        fault("32768", story.word(26, 32768), 6);
        fault("32768 and half of L", story.word(26, 32768 + L / 2), 6);
        fault("half of an odd L", new Story().word(26, 511).cut(1023), 6);
        fault("half of an odd L, and 1", new Story().word(26, 512).cut(1023), 6);
    }

    private static void sum() {
        CHECK.says("7 that is not 0, and the WORD at 28 is not the sum of all bytes from 64 on, modulo 65536");
        Story story = new Story().at(63, 200).word(26, L / 2);
        for (int at = 64; at < L; at++) {
            story.at(at, 255);
        }
        CHECK.due("the sum of 960 times 255", story.sum(), 960 * 255 - 3 * 65536);
        fault("the sum modulo 65536", story.word(28, story.sum()), 0);
        fault("1 more", story.word(28, story.sum() + 1), 7);
        fault("1 less", story.word(28, story.sum() - 1), 7);
        fault("with byte 63", story.word(28, story.sum() + 200), 7);
        fault("without byte 64", story.word(28, story.sum() - 255), 7);
        fault("another sum, and 0 at 26", story.word(26, 0), 0);
        Story shorter = new Story().at(799, 7).at(800, 9).word(26, 400);
        fault("the sum of a shorter one", shorter.word(28, shorter.cut(800).sum()), 0);
    }

    private static void leastFault() {
        CHECK.says("FAULTS of a STORY, the least");
        fault("1 and 2", new Story().at(0, 2).cut(63), 1);
        fault("2 and 3", new Story().at(0, 2).mark(63), 2);
        fault("3 and 4", new Story().word(14, 1025).word(4, 0), 3);
        fault("4 and 5", new Story().word(4, 1025).word(6, 1024), 4);
        fault("5 and 6", new Story().word(6, 1024).word(26, 1), 5);
        fault("6 and 7", new Story().word(26, 1).word(28, 1), 6);
        fault("2 and 7", new Story().at(0, 4).word(26, 512).word(28, 1), 2);
    }
}
