/** Promise 7: line, with DICTIONARY. */
public final class LineTest {
    private static final Check CHECK = new Check();
    private static final int CODE = Story.CODE;
    private static final int LINE = Story.LINE, WORDS = Story.WORDS, DICTIONARY = Story.DICTIONARY;
    private static final int ENTRIES = DICTIONARY + 1 + 2 + 3, ENTRY = 6;

    public static void main(String[] args) {
        waiting();
        laying();
        parting();
        separators();
        heldBehindTheMost();
        heldOnce();
        lookingUp();
        encoding();
        mostEntries();
        halts();
        CHECK.finish();
    }

    /** A STORY that reads; its DICTIONARY has the SEPARATORS , and . and these words. */
    private static Story reading(int mostCodes, int mostWords, String... words) {
        Story story = new Story(0xE4, 0x0F, LINE >> 8, LINE & 255, WORDS >> 8, WORDS & 255, Story.QUIT)
                .at(LINE, mostCodes).at(WORDS, mostWords)
                .at(DICTIONARY, 2, ',', '.', ENTRY).word(DICTIONARY + 4, words.length);
        for (int i = 0; i < words.length; i++) {
            int[] packed = Story.spell(words[i]);
            int[] entry = new int[4];
            // the filling of a short word is a second WORD of 5, 5, 5
            if (packed.length == 2) {
                entry = new int[] {packed[0] & 127, packed[1], 0x94, 0xA5};
            } else {
                System.arraycopy(packed, 0, entry, 0, 4);
                entry[2] |= 128;
            }
            story.at(ENTRIES + ENTRY * i, entry);
        }
        return story;
    }

    private static int say(TaleMachine x, String text) {
        return x.line(Story.four(text, 0), Story.four(text, 4));
    }

    private static void laid(String what, TaleMachine x, String want) {
        for (int i = 0; i < want.length(); i++) {
            CHECK.due(what + ": code " + i, x.peek(LINE + 1 + i), want.charAt(i));
        }
        CHECK.due(what + ": a 0 behind", x.peek(LINE + 1 + want.length()), 0);
    }

    /** WORD i: where it is in DICTIONARY, how many codes, where it begins. */
    private static void told(String what, TaleMachine x, int i, int entry, int codes, int at) {
        int place = WORDS + 2 + 4 * i;
        CHECK.due(what + " " + i + ": entry", x.peek(place) * 256 + x.peek(place + 1), entry);
        CHECK.due(what + " " + i + ": codes", x.peek(place + 2), codes);
        CHECK.due(what + " " + i + ": begins", x.peek(place + 3), at);
    }

    private static int entry(int i) {
        return ENTRIES + ENTRY * i;
    }

    private static void waiting() {
        TaleMachine x = reading(10, 5, "go").loaded();
        CHECK.due("line ahead of read", say(x, "go"), -2);
        CHECK.due("read", x.run(300), 3);
        CHECK.due("WAITS", x.state(), 3);
        CHECK.due("one ORDER", x.count(1), 1);
        CHECK.due("PC is that of the next ORDER", x.count(4), CODE + 6);
        CHECK.due("run of one that WAITS", x.run(1), -2);
        CHECK.due("line", say(x, "go"), 1);
        CHECK.due("it can go on", x.state(), 1);
        CHECK.due("PC", x.count(4), CODE + 6);
        CHECK.due("line again", say(x, "go"), -2);
        CHECK.due("it goes on", x.run(1), 2);
    }

    private static TaleMachine read(Story story, String text, int want) {
        TaleMachine x = story.run(1);
        CHECK.due("line '" + text + "'", say(x, text), want);
        return x;
    }

    private static void laying() {
        laid("as it is", read(reading(10, 5), "go lamp", 2), "go lamp");
        laid("A .. Z", read(reading(10, 5), "@AZ[`az{", 1), "@az[`az{");
        laid("eight codes", read(reading(10, 5), "abcdefgh", 1), "abcdefgh");
        laid("cut", read(reading(3, 5), "abcdefgh", 1), "abc");
        laid("none", read(reading(0, 5), "abcdefgh", 0), "");
        laid("an empty line", read(reading(10, 5), "", 0), "");
        laid("up to the first 0 byte", read(reading(10, 5), "ab\0cdefg", 1), "ab");
        TaleMachine x = read(reading(10, 5).at(LINE + 4, 99), "ab", 1);
        CHECK.due("behind the 0 nothing changes", x.peek(LINE + 4), 99);
        CHECK.due("the 0 itself", read(reading(10, 5).at(LINE + 3, 99), "ab", 1).peek(LINE + 3), 0);
        CHECK.due("the 0 of an empty line", read(reading(10, 5).at(LINE + 1, 99), "", 0).peek(LINE + 1), 0);
        CHECK.due("a 0 in the first number ends it", read(reading(10, 5), "ab\0\0cd", 1).peek(LINE + 5), 0);
    }

    private static void parting() {
        TaleMachine x = read(reading(10, 5, "lamp", "go"), " go  Lamp", 2);
        CHECK.due("how many", x.peek(WORDS + 1), 2);
        told("parted", x, 0, entry(1), 2, 2);
        told("parted", x, 1, 0, 3, 6);
        TaleMachine y = read(reading(10, 2), "a b c d", 2);
        CHECK.due("the most", y.peek(WORDS + 1), 2);
        told("the most", y, 1, 0, 1, 3);
        told("none more", y, 2, 0, 0, 0);
        TaleMachine z = read(reading(10, 0).at(WORDS + 1, 9), "a b c d", 0);
        CHECK.due("none", z.peek(WORDS + 1), 0);
        TaleMachine w = read(reading(10, 5).at(WORDS + 1, 9), "   ", 0);
        CHECK.due("blanks alone", w.peek(WORDS + 1), 0);
        TaleMachine v = read(reading(4, 5, "lam"), "go lamp", 2);
        told("of what is cut", v, 1, 0, 1, 4);
    }

    private static void separators() {
        TaleMachine x = read(reading(10, 9, "go", ",", "n"), "go,n., n", 6);
        told("parted by SEPARATORS", x, 0, entry(0), 2, 1);
        told("parted by SEPARATORS", x, 1, entry(1), 1, 3);
        told("parted by SEPARATORS", x, 2, entry(2), 1, 4);
        told("parted by SEPARATORS", x, 3, 0, 1, 5);
        told("parted by SEPARATORS", x, 4, entry(1), 1, 6);
        told("parted by SEPARATORS", x, 5, entry(2), 1, 8);
        CHECK.due("! is none of them", read(reading(10, 9), "a!b", 1).peek(WORDS + 4), 3);
    }

    /** Byte b bounds how many WORDS are told, not which codes are held against SEPARATORS. */
    private static void heldBehindTheMost() {
        for (int at : new int[] {1024, 65535}) {
            read(reading(10, 0).word(8, at), "a", -11);
            read(reading(10, 0).word(8, at), " \u00ff\u00ff", -11);
            read(reading(10, 0).word(8, at), "   ", 0);
            read(reading(10, 0).word(8, at), "", 0);
            read(reading(0, 0).word(8, at), "a", 0);
            read(reading(2, 0).word(8, at), "  a", 0);
        }
        // five SEPARATORS, of which only the first one is in MEMORY
        int last = Story.SIZE - 2;
        read(reading(10, 0).word(8, last).at(last, 5, ','), ",", 0);
        read(reading(10, 0).word(8, last).at(last, 5, ','), " ,, ,", 0);
        read(reading(10, 0).word(8, last).at(last, 5, ','), ",, a", -11);
        read(reading(10, 0).word(8, last).at(last, 1, ','), ",, a", 0);
        TaleMachine x = reading(10, 0).word(8, 65535).at(WORDS + 1, 9).run(1);
        CHECK.due("a HALT of SEPARATORS", say(x, "Go"), -11);
        CHECK.halted("a HALT of SEPARATORS", x, 1, CODE + 6);
        laid("the line stays", x, "go");
        CHECK.due("how many is not written", x.peek(WORDS + 1), 9);
        TaleMachine y = read(reading(10, 1, "go"), "go,n", 1);
        told("the first one", y, 0, entry(0), 2, 1);
        told("none behind it", y, 1, 0, 0, 0);
        CHECK.due("one of three", y.peek(WORDS + 1), 1);
        CHECK.due("a SEPARATOR is one of the most", read(reading(10, 2), "a,b", 2).peek(WORDS + 9), 2);
    }

    /** What the first WORD tells is laid over the SEPARATORS, behind which , was held against them. */
    private static void heldOnce() {
        int at = WORDS + 4;
        TaleMachine x = read(reading(10, 9).word(8, at).at(at, 1, ',', 0, 0, 0), "a,b", 3);
        CHECK.due("the SEPARATORS are others now", x.peek(at) * 256 + x.peek(at + 1), 257);
        told("held once", x, 1, 0, 1, 2);
        told("held once", x, 2, 0, 1, 3);
        read(reading(10, 9).word(8, at).at(at, 1, ',', 0, 0, 0), "a b,c", 2);
    }

    private static void lookingUp() {
        TaleMachine x = read(reading(10, 9, "abcdef", "abc", "abcdef"), "abcdefgh", 1);
        told("six LETTERS count, the first entry", x, 0, entry(0), 8, 1);
        told("three LETTERS", read(reading(10, 9, "abcdef", "abc"), "abc", 1), 0, entry(1), 3, 1);
        told("not there", read(reading(10, 9, "abcdef", "abc"), "ab", 1), 0, 0, 2, 1);
        Story none = reading(10, 9, "abc").word(DICTIONARY + 4, 0);
        told("no entries", read(none, "abc", 1), 0, 0, 3, 1);
        Story still = reading(10, 9, "abc").at(DICTIONARY + 3, 0).word(DICTIONARY + 4, 65535);
        told("entries of no length", read(still, "abc", 1), 0, entry(0), 3, 1);
        told("entries of no length", read(still, "abd", 1), 0, 0, 3, 1);
        TaleMachine y = reading(10, 9, "abc").at(CODE, 0xE1, 0x57, 8, 0, 0)
                .at(CODE + 5, 0xE4, 0x0F, LINE >> 8, LINE & 255, WORDS >> 8, WORDS & 255).run(2);
        say(y, "abc");
        told("DICTIONARY as it was when it was loaded", y, 0, entry(0), 3, 1);
    }

    private static void found(String word, int... letters) {
        int[] packed = Story.pack(letters);
        TaleMachine x = reading(10, 9, "abc").at(ENTRIES, packed[0] & 127, packed[1], packed[2] | 128, packed[3]).run(1);
        say(x, word);
        told("'" + word + "'", x, 0, entry(0), word.length(), 1);
    }

    private static void encoding() {
        found("a", 6, 5, 5, 5, 5, 5);
        found("Zz", 31, 31, 5, 5, 5, 5);
        found("0)", 5, 8, 5, 31, 5, 5);
        found("a1b2", 6, 5, 9, 7, 5, 10);
        found("abcde9", 6, 7, 8, 9, 10, 5);
        found("$", 5, 6, 1, 4, 5, 5);
        found("ab$", 6, 7, 5, 6, 1, 4);
        found("abc$", 6, 7, 8, 5, 6, 1);
        found("\u00e9", 5, 6, 7, 9, 5, 5);
        found("\r", 5, 6, 0, 13, 5, 5);
        found("\"\\", 5, 25, 5, 27, 5, 5);
    }

    private static void mostEntries() {
        // entries of one byte each: the one that fits begins behind so many others
        for (int others = 254; others <= 255; others++) {
            int at = ENTRIES + others;
            Story story = reading(10, 9).at(DICTIONARY + 3, 1).word(DICTIONARY + 4, 300)
                    .word(6, 1010).at(1010, 0xE4, 0x0F, LINE >> 8, LINE & 255, WORDS >> 8, WORDS & 255);
            for (int i = ENTRIES; i < 1010; i++) {
                story.at(i, 0);
            }
            story.at(at, 0x18, 0xA5, 0x94, 0xA5);
            told("behind " + others, read(story, "a", 1), 0, others == 254 ? at : 0, 1, 1);
        }
    }

    private static void halted(String what, Story story, int halt) {
        TaleMachine x = story.run(1);
        CHECK.due(what, say(x, "go lamp"), -10 - halt);
        CHECK.halted(what, x, halt, CODE + 6);
        CHECK.due(what + ": line again", say(x, "go lamp"), -2);
    }

    private static void halts() {
        halted("a out of MEMORY", reading(10, 5).at(CODE + 2, 4, 0), 1);
        halted("a above THE MARK", reading(10, 5).at(CODE + 2, DICTIONARY >> 8, DICTIONARY & 255), 2);
        halted("a at the end", reading(10, 5).at(CODE + 2, 3, 255).at(1023, 10).word(14, 1024).word(4, 1024), 1);
        halted("b out of MEMORY", reading(10, 5).at(CODE + 4, 4, 0), 1);
        halted("b above THE MARK", reading(10, 5).at(CODE + 4, DICTIONARY >> 8, DICTIONARY & 255), 2);
        halted("DICTIONARY out of MEMORY", reading(10, 5).word(8, 1024), 1);
        halted("entries out of MEMORY", reading(10, 5).word(DICTIONARY + 4, 255).at(DICTIONARY + 3, 255), 1);
        halted("the 0 behind it above THE MARK", reading(7, 5).word(14, LINE + 8), 2);
        TaleMachine x = reading(7, 5).word(14, LINE + 8).run(1);
        say(x, "go lamp");
        CHECK.due("what it did stays", x.peek(LINE + 7), 'p');
        TaleMachine y = reading(10, 5).word(14, WORDS + 8).run(1);
        CHECK.due("the second WORD above THE MARK", say(y, "go lamp"), -12);
        told("the first one stays", y, 0, 0, 2, 1);
        CHECK.due("how many is written last", y.peek(WORDS + 1), 0);
        CHECK.due("an empty line needs no DICTIONARY", say(reading(10, 5).word(8, 1024).run(1), ""), 0);
    }
}
