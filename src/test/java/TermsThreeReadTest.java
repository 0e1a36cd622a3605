import java.util.Arrays;

/** "Terms" 3, sentence by sentence: read with DICTIONARY, and random. */
public final class TermsThreeReadTest {
    private static final Check CHECK = new Check();
    private static final int CODE = Story.CODE, LINE = Story.LINE, WORDS = Story.WORDS, DICTIONARY = Story.DICTIONARY;
    /** Where the entries are, behind two SEPARATORS. */
    private static final int ENTRIES = DICTIONARY + 6;
    private static final int PC = CODE + 6;

    public static void main(String[] args) {
        waits();
        smallLetters();
        asManyAsByteA();
        zeroBehind();
        lineThatCantBeWritten();
        blanks();
        separators();
        ofTheLine();
        heldInOrder();
        writtenLast();
        theMost();
        fourBytes();
        entries();
        entryIsTwoWords();
        entryThatLacks();
        twoHundredFiftyFive();
        sixLetters();
        oneLetterOrMore();
        drawn();
        drawBecomes();
        CHECK.finish();
    }

    /** A STORY that reads; SEPARATORS are , and . and there are no entries. */
    private static Story reading(int mostCodes, int mostWords) {
        return Story.of(Orders.var(Orders.READ, LINE, WORDS), Orders.none(Orders.QUIT)).at(LINE, mostCodes).at(WORDS, mostWords)
                .at(DICTIONARY, 2, ',', '.', 4, 0, 0);
    }

    private static TaleMachine said(Story story, String text, int want) {
        TaleMachine x = story.run(1);
        CHECK.due("line '" + text + "'", x.line(Story.four(text, 0), Story.four(text, 4)), want);
        return x;
    }

    private static void laid(TaleMachine x, String want) {
        for (int i = 0; i < want.length(); i++) {
            CHECK.due("'" + want + "': code " + i, x.peek(LINE + 1 + i), want.charAt(i));
        }
    }

    /** WORDS as told: pairs of how many codes and at which byte. */
    private static void told(String what, TaleMachine x, int... want) {
        CHECK.due(what + ": how many", x.peek(WORDS + 1), want.length / 2);
        for (int i = 0; i < want.length / 2; i++) {
            CHECK.due(what + ": codes of " + i, x.peek(WORDS + 4 + 4 * i), want[2 * i]);
            CHECK.due(what + ": begin of " + i, x.peek(WORDS + 5 + 4 * i), want[2 * i + 1]);
        }
    }

    private static int entryOf(TaleMachine x, int i) {
        return x.peek(WORDS + 2 + 4 * i) * 256 + x.peek(WORDS + 3 + 4 * i);
    }

    private static void waits() {
        CHECK.says("read a b: WAITS for a line");
        TaleMachine x = reading(8, 8).loaded();
        CHECK.due("run", x.run(300), 3);
        CHECK.due("one ORDER", x.count(1), 1);
        CHECK.due("nothing is written yet", x.peek(LINE + 1), 0);
        TaleMachine y = Story.of(Orders.var(Orders.READ, 65535, 65535)).run(1);
        CHECK.due("wherever a and b are", y.state(), 3);
        CHECK.due("then", y.line(0, 0), -11);
    }

    private static void smallLetters() {
        CHECK.says("its codes (A .. Z as a .. z)");
        laid(said(reading(8, 0), "@AZ[`az{", 0), "@az[`az{");
        laid(said(reading(8, 0), "BYMabyz~", 0), "bymabyz~");
        laid(said(reading(8, 0), "\u00c0\u00df\u00ff\u0080\u0001\u001f09", 0), "\u00c0\u00df\u00ff\u0080\u0001\u001f09");
    }

    private static void asManyAsByteA() {
        CHECK.says("as many as byte a tells at most, come to a + 1 on");
        for (int most : new int[] {0, 1, 7, 8, 9, 255}) {
            TaleMachine x = said(reading(most, 9).at(LINE + 1, 99, 99, 99, 99, 99, 99, 99, 99, 99, 99), "abcdefgh", most == 0 ? 0 : 1);
            int many = Math.min(most, 8);
            laid(x, "abcdefgh".substring(0, many));
            CHECK.due(most + ": a 0 behind", x.peek(LINE + 1 + many), 0);
            CHECK.due(most + ": no more", x.peek(LINE + 2 + many), 99);
            CHECK.due(most + ": byte a stays", x.peek(LINE), most);
            if (most > 0) {
                told(most + " codes", x, many, 1);
            }
        }
    }

    private static void zeroBehind() {
        CHECK.says("and a 0 behind");
        for (String text : new String[] {"", "a", "abcd", "abcdefgh"}) {
            TaleMachine x = said(reading(8, 0).at(LINE + 1, 99, 99, 99, 99, 99, 99, 99, 99, 99, 99), text, 0);
            CHECK.due("behind '" + text + "'", x.peek(LINE + 1 + text.length()), 0);
            CHECK.due("one behind that", x.peek(LINE + 2 + text.length()), 99);
        }
    }

    private static void lineThatCantBeWritten() {
        CHECK.says("come to a + 1 on, and a 0 behind (HALTS as told)");
        TaleMachine x = said(reading(8, 8).mark(LINE + 3), "abcd", -12);
        CHECK.halted("the third code", x, 2, PC);
        laid(x, "ab");
        TaleMachine y = said(reading(8, 8).at(LINE + 3, 99).mark(LINE + 3), "ab", -12);
        CHECK.due("the 0", y.peek(LINE + 3), 99);
        said(reading(8, 8).mark(LINE + 3).word(8, 65535), "ab", -12);
        said(reading(8, 8).mark(LINE + 4).word(8, 65535), "ab", -11);
        said(Story.of(Orders.var(Orders.READ, 1024, WORDS)), "ab", -11);
        said(Story.of(Orders.var(Orders.READ, 65535, WORDS)), "ab", -11);
        said(Story.of(Orders.var(Orders.READ, 1023, WORDS)).mark(1024), "ab", -11);
    }

    private static void blanks() {
        CHECK.says("WORDS of it, parted by blanks");
        told("none", said(reading(8, 8).at(WORDS + 1, 99), "", 0));
        told("blanks alone", said(reading(8, 8).at(WORDS + 1, 99), "        ", 0));
        told("one", said(reading(8, 8), "abc", 1), 3, 1);
        told("blanks around", said(reading(8, 8), "  abc   ", 1), 3, 3);
        told("two", said(reading(8, 8), "a bcd ef", 3), 1, 1, 3, 3, 2, 7);
        told("more blanks", said(reading(8, 8), "a    b", 2), 1, 1, 1, 6);
        told("the most that there can be", said(reading(8, 8), "a b c d", 4), 1, 1, 1, 3, 1, 5, 1, 7);
        told("other codes do not part", said(reading(8, 8), "a\tb\rc!d", 1), 7, 1);
    }

    private static void separators() {
        CHECK.says("and by SEPARATORS (each one itself ..");
        told("between", said(reading(8, 8), "ab,cd", 3), 2, 1, 1, 3, 2, 4);
        told("first and last", said(reading(8, 8), ",ab.", 3), 1, 1, 2, 2, 1, 4);
        told("alone", said(reading(8, 8), ".", 1), 1, 1);
        told("eight of them", said(reading(8, 9), ",.,.,.,.", 8), 1, 1, 1, 2, 1, 3, 1, 4, 1, 5, 1, 6, 1, 7, 1, 8);
        told("with blanks", said(reading(8, 8), "a , b", 3), 1, 1, 1, 3, 1, 5);
        told("no SEPARATORS", said(reading(8, 8).at(DICTIONARY, 0, 4, 0, 0), "a,b.c", 1), 5, 1);
        told("one SEPARATOR", said(reading(8, 8).at(DICTIONARY, 1, ',', 4, 0, 0), "a,b.c", 3), 1, 1, 1, 2, 3, 3);
        told("how many they are is none", said(reading(8, 8), "a\u0002b", 1), 3, 1);
        told("what is behind them is none", said(reading(8, 8), "a\u0004b", 1), 3, 1);
        told("A is read as a", said(reading(8, 8).at(DICTIONARY, 1, 'a', 4, 0, 0), "xAx", 3), 1, 1, 1, 2, 1, 3);
        told("the second half of the codes", said(reading(8, 8).at(DICTIONARY, 1, 255, 4, 0, 0), "x\u00ffx", 3), 1, 1, 1, 2, 1, 3);
    }

    private static void ofTheLine() {
        CHECK.says("then WORDS of it ..");
        // a and b are the same: what is told comes over the codes
        TaleMachine x = said(Story.of(Orders.var(Orders.READ, LINE, LINE)).at(LINE, 8), "a b, c", 3);
        int[] want = {8, 3, 0, 0, 1, 1, 0, 0, 2, 3, 0, 0, 1, 6};
        for (int i = 0; i < want.length; i++) {
            CHECK.due("byte " + i, x.peek(LINE + i), want[i]);
        }
    }

    private static void heldInOrder() {
        CHECK.says("a code is held against them in order, up to the one that it is");
        // of 9 SEPARATORS the first two are in MEMORY
        Story story = reading(8, 0).word(8, 1021).at(1021, 9, ',', '.');
        said(story, ",", 0);
        said(story, ".", 0);
        said(story, ", ,.  ,", 0);
        said(story, "a", -11);
        said(story, ",.a", -11);
        said(story, "  ", 0);
        Story none = reading(8, 0).word(8, 1024);
        said(none, ",", -11);
        said(none, " ", 0);
        said(none, "", 0);
        said(reading(0, 0).word(8, 1024), "a", 0);
        TaleMachine x = said(reading(8, 8).at(WORDS + 1, 99).word(8, 65535), "Ab", -11);
        laid(x, "ab");
        CHECK.due("how many is not written", x.peek(WORDS + 1), 99);
        CHECK.halted("HALT 1", x, 1, PC);
    }

    private static void writtenLast() {
        CHECK.says("b + 1 tells how many (written last ..");
        TaleMachine x = said(reading(8, 8).at(WORDS + 1, 99).mark(WORDS + 6), "a b", -12);
        CHECK.due("the second WORD is the first that can't be written", x.peek(WORDS + 1), 99);
        CHECK.due("the first one is", x.peek(WORDS + 4), 1);
        TaleMachine y = said(reading(8, 8).mark(WORDS + 6), "a", 1);
        CHECK.due("a WORD that ends at THE MARK", y.peek(WORDS + 1), 1);
        TaleMachine z = said(reading(8, 8).at(WORDS + 1, 99).mark(WORDS + 1), "", -12);
        CHECK.due("none, and b + 1 at THE MARK", z.peek(WORDS + 1), 99);
        said(reading(8, 8).mark(WORDS + 2), "", 0);
        for (int cut = 2; cut <= 5; cut++) {
            TaleMachine v = said(reading(8, 8).at(WORDS + 2, 99, 99, 99, 99).mark(WORDS + cut), "a", -12);
            CHECK.due("the WORD, THE MARK at b + " + cut, v.peek(WORDS + 2), cut >= 4 ? 0 : 99);
            CHECK.due("how many codes, THE MARK at b + " + cut, v.peek(WORDS + 4), cut >= 5 ? 1 : 99);
            CHECK.due("where it begins, THE MARK at b + " + cut, v.peek(WORDS + 5), 99);
        }
        said(Story.of(Orders.var(Orders.READ, LINE, 1023)).at(LINE, 8), "", -11);
    }

    private static void theMost() {
        CHECK.says("byte b, read first, tells the most");
        for (int most = 0; most <= 5; most++) {
            int many = Math.min(most, 4);
            TaleMachine x = said(reading(8, most).at(WORDS + 2 + 4 * many, 99), "a b c d", many);
            CHECK.due("of " + most, x.peek(WORDS + 1), many);
            CHECK.due("none behind them, of " + most, x.peek(WORDS + 2 + 4 * many), 99);
            CHECK.due("byte b stays", x.peek(WORDS), most);
        }
        CHECK.due("255", said(reading(8, 255), "a b c d", 4).peek(WORDS + 1), 4);
        told("a SEPARATOR is one of them", said(reading(8, 2), "a,b", 2), 1, 1, 1, 2);
        TaleMachine y = said(Story.of(Orders.var(Orders.READ, LINE, 1024)).at(LINE, 8).word(8, 65535), "ab", -11);
        laid(y, "ab");
        said(Story.of(Orders.var(Orders.READ, LINE, 1024)).at(LINE, 8), "", -11);
    }

    private static void fourBytes() {
        CHECK.says("each of four bytes from b + 2 on: a WORD, where it is in DICTIONARY, or 0, how many codes, at which byte from a on it begins");
        Story story = reading(8, 8).at(DICTIONARY + 3, 4, 0, 2).at(ENTRIES, 0x18, 0xA5, 0x94, 0xA5, 0x1C, 0xA5, 0x94, 0xA5)
                .at(WORDS + 2, 99, 99, 99, 99, 99, 99, 99, 99, 99, 99, 99, 99, 99);
        TaleMachine x = said(story, "b  ccc a", 3);
        CHECK.due("the second entry", entryOf(x, 0), ENTRIES + 4);
        CHECK.due("no entry", entryOf(x, 1), 0);
        CHECK.due("the first entry", entryOf(x, 2), ENTRIES);
        told("codes and begins", x, 1, 1, 3, 4, 1, 8);
        CHECK.due("the byte behind", x.peek(WORDS + 14), 99);
    }

    private static void entries() {
        CHECK.says("a byte, how long an entry is, a WORD, how many");
        for (int length : new int[] {4, 5, 7, 20}) {
            Story story = reading(8, 8).at(DICTIONARY + 3, length, 0, 3).at(ENTRIES + 2 * length, 0x18, 0xA5, 0x94, 0xA5);
            CHECK.due("the third, of " + length, entryOf(said(story, "a", 1), 0), ENTRIES + 2 * length);
            CHECK.due("two alone, of " + length, entryOf(said(story.word(DICTIONARY + 4, 2), "a", 1), 0), 0);
        }
        Story same = reading(8, 8).at(DICTIONARY + 3, 0, 255, 255).at(ENTRIES, 0x18, 0xA5, 0x94, 0xA5);
        CHECK.due("of length 0", entryOf(said(same, "a", 1), 0), ENTRIES);
        CHECK.due("of length 0, another one", entryOf(said(same, "b", 1), 0), 0);
        Story twice = reading(8, 8).at(DICTIONARY + 3, 4, 0, 2).at(ENTRIES, 0x18, 0xA5, 0x94, 0xA5, 0x18, 0xA5, 0x94, 0xA5);
        CHECK.due("the first that is it", entryOf(said(twice, "a", 1), 0), ENTRIES);
        CHECK.due("none", entryOf(said(twice.word(DICTIONARY + 4, 0), "a", 1), 0), 0);
        Story last = reading(8, 8).word(8, 1014).at(1014, 2, ',', '.', 4, 0, 1, 0x18, 0xA5, 0x94, 0xA5);
        CHECK.due("the last bytes of MEMORY", entryOf(said(last, "a", 1), 0), 1020);
        said(last, "b", 1);
        said(last.at(1019, 2), "a", 1);
        said(last, "b", -11);
        said(reading(8, 8).word(8, 1021).at(1021, 0, 4), "a", -11);
    }

    /** Of the last entry, "a", so many bytes are behind MEMORY; those ahead of it are 0. */
    private static Story lacking(int bytes, int many) {
        int at = Story.SIZE + bytes - 4 * many - 6;
        int[] last = {0x18, 0xA5, 0x94, 0xA5};
        return reading(8, 8).word(8, at).at(at, 2, ',', '.', 4, 0, many)
                .at(Story.SIZE + bytes - 4, Arrays.copyOf(last, 4 - bytes));
    }

    private static void entryIsTwoWords() {
        CHECK.says("the entries: two WORDS");
        for (int many = 1; many <= 3; many++) {
            CHECK.due("all in MEMORY", entryOf(said(lacking(0, many), "a", 1), 0), Story.SIZE - 4);
            CHECK.due("all in MEMORY, another one", entryOf(said(lacking(0, many), "b", 1), 0), 0);
            for (int bytes = 1; bytes <= 4; bytes++) {
                said(lacking(bytes, many), "a", -11);
                said(lacking(bytes, many), "b", -11);
                said(lacking(bytes, many), "  ", 0);
                said(lacking(bytes, many).at(WORDS, 0), "b", 0);
            }
        }
    }

    private static void entryThatLacks() {
        CHECK.says("of none below L: HALT 1");
        TaleMachine x = said(lacking(2, 1).at(WORDS + 1, 99, 98, 97), "B", -11);
        CHECK.halted("the second WORD", x, 1, PC);
        laid(x, "b");
        CHECK.due("where it is", entryOf(x, 0), 98 * 256 + 97);
        CHECK.due("how many", x.peek(WORDS + 1), 99);
        Story ahead = lacking(2, 2).at(Story.SIZE - 6, 0x1C, 0xA5, 0x94, 0xA5);
        CHECK.due("found in the entry ahead of it", entryOf(said(ahead, "b", 1), 0), Story.SIZE - 6);
        TaleMachine y = said(ahead.at(WORDS + 1, 99), "b c", -11);
        CHECK.due("what was told stays", entryOf(y, 0), Story.SIZE - 6);
        CHECK.due("how many", y.peek(WORDS + 1), 99);
        CHECK.due("the most is told already", entryOf(said(ahead.at(WORDS, 1), "b c", 1), 0), Story.SIZE - 6);
    }

    private static void twoHundredFiftyFive() {
        CHECK.says("(up to 255 are looked at)");
        for (int many : new int[] {254, 255, 256, 300, 32768, 65535}) {
            for (int ahead = 253; ahead <= 255; ahead++) {
                // entries of one byte: what is looked for begins behind so many others
                Story story = new Story().word(6, 1000).at(1000, Orders.var(Orders.READ, LINE, WORDS)).at(LINE, 8).at(WORDS, 8)
                        .at(DICTIONARY, 2, ',', '.', 1).word(DICTIONARY + 4, many).at(ENTRIES + ahead, 0x18, 0xA5, 0x94, 0xA5);
                boolean found = ahead < Math.min(many, 255);
                CHECK.due(ahead + " ahead, of " + many, entryOf(said(story, "a", 1), 0), found ? ENTRIES + ahead : 0);
            }
        }
    }

    /** A word that is found as these LETTERS, six of them. */
    private static void spelled(String word, int... letters) {
        int first = letters[0] << 10 | letters[1] << 5 | letters[2];
        int second = 32768 | letters[3] << 10 | letters[4] << 5 | letters[5];
        Story story = reading(8, 8).at(DICTIONARY, 0, 4, 0, 1).word(DICTIONARY + 4, first).word(DICTIONARY + 6, second);
        CHECK.due("'" + word + "'", entryOf(said(story, word, 1), 0), DICTIONARY + 4);
        CHECK.due("'" + word + "' without bit 15", entryOf(said(story.word(DICTIONARY + 6, second & 32767), word, 1), 0), 0);
        CHECK.due("'" + word + "' with two bits 15",
                entryOf(said(story.word(DICTIONARY + 6, second).word(DICTIONARY + 4, first | 32768), word, 1), 0), 0);
    }

    private static void sixLetters() {
        CHECK.says("two WORDS, as the code's TEXT cut to 6 LETTERS (filled with 5; the second WORD with bit 15)");
        spelled("a", 6, 5, 5, 5, 5, 5);
        spelled("abc", 6, 7, 8, 5, 5, 5);
        spelled("abcde", 6, 7, 8, 9, 10, 5);
        spelled("abcdef", 6, 7, 8, 9, 10, 11);
        spelled("abcdefg", 6, 7, 8, 9, 10, 11);
        spelled("abcdefgh", 6, 7, 8, 9, 10, 11);
        spelled("abcde1", 6, 7, 8, 9, 10, 5);
        spelled("abcd1", 6, 7, 8, 9, 5, 9);
        spelled("abcde$", 6, 7, 8, 9, 10, 5);
        spelled("abcd$", 6, 7, 8, 9, 5, 6);
        spelled("abc$", 6, 7, 8, 5, 6, 1);
        spelled("ab$", 6, 7, 5, 6, 1, 4);
        spelled("$$", 5, 6, 1, 4, 5, 6);
    }

    private static void oneLetterOrMore() {
        CHECK.says("a .. z one LETTER; of the third row from 8 on: 5 and it; others: 5, 6 and two");
        for (char c = 'a'; c <= 'z'; c++) {
            spelled(String.valueOf(c), c - 'a' + 6, 5, 5, 5, 5, 5);
            spelled(String.valueOf((char) (c - 32)), c - 'a' + 6, 5, 5, 5, 5, 5);
        }
        String third = "0123456789.,!?_#'\"/\\-:()";
        for (int i = 0; i < third.length(); i++) {
            spelled(third.substring(i, i + 1), 5, 8 + i, 5, 5, 5, 5);
        }
        for (int code : new int[] {1, 10, 13, 31, '$', '%', '*', ';', '@', '[', '`', '{', '~', 127, 128, 192, 255}) {
            spelled(String.valueOf((char) code), 5, 6, code >> 5, code & 31, 5, 5);
        }
    }

    private static int drawOf(int draw, int a) {
        return (draw >>> 16 & 32767) % a + 1;
    }

    private static void drawn() {
        CHECK.says("random a: SIGNED above 0: THE DRAW (an int, 1 at first) becomes 1103515245 times it and 12345; its bits 16 to 30 modulo a, and 1");
        for (int a : new int[] {1, 2, 100, 32766, 32767}) {
            int[] random = Story.join(Orders.var(Orders.RANDOM, a), Story.code(0));
            TaleMachine x = Story.of(random, random, random, random, random, random, random, random).run(8);
            int draw = 1;
            for (int i = 0; i < 8; i++) {
                draw = draw * 1103515245 + 12345;
                CHECK.due("draw " + i + " of " + a, x.word(i, false), drawOf(draw, a));
            }
        }
    }

    private static void drawBecomes() {
        CHECK.says("else THE DRAW becomes 0 - a (of 0 it stays), 0");
        int[] dice = Story.join(Orders.var(Orders.RANDOM, 32767), Story.code(0));
        int[] seeds = {0, 65535, 65534, 32769, 32768};
        int[] draws = {1103515245 + 12345, 1, 2, 32767, 32768};
        for (int i = 0; i < seeds.length; i++) {
            TaleMachine x = Story.of(dice, Story.join(Orders.var(Orders.RANDOM, seeds[i]), Story.code(0)), dice).run(3);
            CHECK.due("random " + seeds[i], x.word(1, false), 0);
            CHECK.due("behind it", x.word(2, false), drawOf(draws[i] * 1103515245 + 12345, 32767));
        }
    }
}
