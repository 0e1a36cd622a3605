import java.util.Arrays;

/** "Terms" 3, sentence by sentence: TEXT and THE OUTPUT. */
public final class TermsThreeTextTest {
    private static final Check CHECK = new Check();
    private static final int CODE = Story.CODE, TEXTS = Story.TEXTS, ABBREVIATIONS = Story.ABBREVIATIONS;

    public static void main(String[] args) {
        upToBit15();
        blank();
        abbreviated();
        abbreviatedTwice();
        rows();
        threeRows();
        codes();
        lacking();
        fiveHundred();
        codeZeroIsNone();
        twoThousand();
        countedToo();
        aheadOfWhatItDoes();
        eachTextAlone();
        theOutput();
        printChar();
        printNum();
        newLine();
        printRet();
        threeHundred();
        CHECK.finish();
    }

    private static int[] print(int... letters) {
        return Orders.none(Orders.PRINT, Story.pack(letters));
    }

    /** A print of these LETTERS, where all ABBREVIATIONS are the TEXT of those. */
    private static Story story(int[] letters, int... abbreviation) {
        Story story = Story.of(print(letters)).at(TEXTS, Story.pack(abbreviation));
        for (int n = 0; n < 96; n++) {
            story.word(ABBREVIATIONS + 2 * n, TEXTS / 2);
        }
        return story;
    }

    private static void tells(String want, int... letters) {
        TaleMachine x = story(letters, 28, 28, 28).run(1);
        CHECK.told(Arrays.toString(letters), x, want);
        CHECK.due("PC behind it", x.count(4), CODE + 1 + Story.pack(letters).length);
    }

    private static void upToBit15() {
        CHECK.says("TEXT: WORDS of three LETTERS of 5 bits (the highest first), up to one with bit 15");
        tells("abc", 6, 7, 8);
        tells("abcdef", 6, 7, 8, 9, 10, 11);
        TaleMachine x = new Story(0xB2, 0x7F, 0xFF, 0x80, 0x00).run(1);
        CHECK.told("the most without bit 15 does not end it", x, "zzz   ");
        CHECK.due("PC", x.count(4), CODE + 5);
        TaleMachine y = new Story(0xB2, 0x80, 0x00, 0x18, 0xC6).run(1);
        CHECK.told("the least with bit 15 ends it", y, "   ");
        CHECK.due("PC", y.count(4), CODE + 3);
        TaleMachine z = new Story(0xB2, 0xFF, 0xFF).run(1);
        CHECK.told("the most of all", z, "zzz");
        CHECK.halted("half a WORD", Story.atEnd(0xB2, 0x80).run(1), 1, 1022);
    }

    private static void blank() {
        CHECK.says("0 a blank");
        tells(" a ", 0, 6, 0);
        tells(" ", 5, 0, 5);
    }

    private static void abbreviated() {
        CHECK.says("1, 2, 3 with the next LETTER x: the TEXT at twice the WORD 32 (LETTER - 1) + x at ABBREVIATIONS");
        for (int n = 0; n < 96; n++) {
            int[] letters = {1 + n / 32, n % 32, 6};
            Story story = Story.of(print(letters)).word(ABBREVIATIONS + 2 * n, TEXTS / 2).at(TEXTS, Story.pack(27, 13, 10));
            CHECK.told("the WORD " + n, story.run(1), "vhea");
        }
        Story high = Story.of(print(1, 0, 6)).word(ABBREVIATIONS, 32768 + TEXTS / 2).at(TEXTS, Story.pack(27, 13, 10));
        CHECK.told("twice it, modulo 65536", high.run(1), "vhea");
        Story last = Story.of(print(3, 31, 6)).word(24, 1024 - 192).word(1022, TEXTS / 2).at(TEXTS, Story.pack(27, 13, 10));
        CHECK.told("the last WORD of MEMORY", last.run(1), "vhea");
        CHECK.halted("none of MEMORY", last.word(24, 1024 - 190).run(1), 1, CODE);
        CHECK.halted("half of one", last.word(24, 1024 - 191).run(1), 1, CODE);
        CHECK.halted("a TEXT out of MEMORY", story(new int[] {1, 0, 6}).word(ABBREVIATIONS, 512).run(1), 1, CODE);
    }

    private static void abbreviatedTwice() {
        CHECK.says("(in which these are HALT 12)");
        for (int letter = 1; letter <= 3; letter++) {
            TaleMachine x = story(new int[] {7, letter, 31, 7}, 6, letter, 0).run(1);
            CHECK.halted("LETTER " + letter, x, 12, CODE);
            CHECK.told("what is told stays", x, "ba");
            CHECK.halted("the last LETTER " + letter, story(new int[] {1, 0}, 6, 6, letter).run(1), 12, CODE);
        }
        CHECK.told("0 and 4 are none of these", story(new int[] {1, 0}, 0, 4, 6).run(1), " A");
        CHECK.told("parts of a code are none", story(new int[] {1, 0}, 5, 6, 1, 1, 6).run(1), "!a");
        CHECK.told("nor is x", story(new int[] {1, 1, 1, 2, 1, 3}, 6, 6, 6).run(1), "aaaaaaaaa");
        TaleMachine y = story(new int[] {1, 0, 1, 1}, 6, 6, 6).run(1);
        CHECK.told("one behind another", y, "aaaaaa");
    }

    private static void rows() {
        CHECK.says("4, 5: the next LETTER is of the second, third row");
        tells("Aa", 4, 6, 6);
        tells("0a", 5, 8, 6);
        tells(" a", 4, 0, 6);
        tells("0", 4, 5, 8);
        tells("A", 5, 4, 6);
        tells("A", 4, 4, 6);
        tells("www", 4, 1, 0);
        tells("wwwa", 4, 1, 0, 6);
        CHECK.told("it ends with an abbreviation", story(new int[] {1, 0, 6}, 6, 6, 4).run(1), "aaa");
        CHECK.told("5, too", story(new int[] {1, 0, 8}, 6, 6, 5).run(1), "aac");
    }

    private static void threeRows() {
        CHECK.says("6 .. 31: of the first row a .. z, second A .. Z, third: .. 7 a new line; 8 .. 31: 0 .. 9 . , ! ? _ # ' \" / \\ - : ( )");
        String third = "\r0123456789.,!?_#'\"/\\-:()";
        for (int letter = 6; letter <= 31; letter++) {
            tells(String.valueOf((char) ('a' + letter - 6)), letter, 5, 5);
            tells(String.valueOf((char) ('A' + letter - 6)), 4, letter, 5);
            if (letter > 6) {
                tells(third.substring(letter - 7, letter - 6), 5, letter, 5);
            }
        }
    }

    private static void codes() {
        CHECK.says("6: the two next LETTERS are a code (32 times the first one, and the second)");
        tells("@", 5, 6, 2, 0);
        tells("~a", 5, 6, 3, 30, 6);
        tells("\r", 5, 6, 0, 13);
        tells("?", 5, 6, 31, 31);
        tells("!", 5, 6, 1, 1);
        tells("A", 4, 6);
        tells("ab", 5, 6, 0, 0, 6, 7);
    }

    private static void lacking() {
        CHECK.says("What lacks at the end tells nothing.");
        tells("ab", 6, 7, 1);
        tells("ab", 6, 7, 3);
        tells("ab", 6, 7, 4);
        tells("ab", 6, 7, 5);
        tells("a", 6, 5, 6);
        tells("", 5, 6, 2);
        CHECK.told("of an abbreviation: the second LETTER of a code", story(new int[] {1, 0, 6}, 5, 6, 2).run(1), "a");
        CHECK.told("of an abbreviation: both", story(new int[] {1, 0, 6}, 7, 5, 6).run(1), "ba");
        TaleMachine x = Story.of(print(6, 7, 1), print(6, 7, 8), print(5, 6, 2), print(6, 7, 8), print(6, 7, 4), print(6)).run(6);
        CHECK.told("another TEXT does not go on with it", x, "ababcabcaba");
    }

    private static void fiveHundred() {
        CHECK.says("A TEXT tells 500 codes at most .. the next code .. HALT 13 (what is told stays)");
        int[] a45 = Story.repeat(45, 6);
        TaleMachine x = story(Story.manyCodes(499), a45).run(1);
        CHECK.due("499", x.count(0), 499);
        TaleMachine y = story(Story.manyCodes(500), a45).run(1);
        CHECK.due("500", y.count(0), 500);
        CHECK.due("it can go on", y.state(), 1);
        TaleMachine z = story(Story.manyCodes(501), a45).run(1);
        CHECK.halted("501", z, 13, CODE);
        CHECK.due("500 stay", z.count(0), 500);
        int[] full = Story.manyCodes(500);
        CHECK.halted("a blank", story(Story.join(full, Story.code(0)), a45).run(1), 13, CODE);
        CHECK.halted("a new line", story(Story.join(full, Story.code(5, 7)), a45).run(1), 13, CODE);
        CHECK.halted("a code", story(Story.join(full, Story.code(5, 6, 0, 1)), a45).run(1), 13, CODE);
        CHECK.halted("of an abbreviation", story(Story.join(full, Story.code(1, 0)), a45).run(1), 13, CODE);
        CHECK.due("LETTERS that tell none", story(Story.join(full, Story.code(4, 5, 4, 5)), a45).run(1).state(), 1);
        TaleMachine v = story(Story.code(5, 7), a45).run(1);
        CHECK.due("a new line is one", v.count(0), 1);
    }

    private static void codeZeroIsNone() {
        CHECK.says("(a code 0 is none)");
        int[] a45 = Story.repeat(45, 6);
        TaleMachine x = story(Story.join(Story.manyCodes(500), Story.code(5, 6, 0, 0)), a45).run(1);
        CHECK.due("behind the 500th", x.state(), 1);
        CHECK.due("it is not told", x.count(0), 500);
        TaleMachine y = story(Story.join(Story.code(5, 6, 0, 0), Story.manyCodes(500)), a45).run(1);
        CHECK.due("ahead of the first", y.state(), 1);
        tells("", 5, 6, 0, 0);
    }

    /** So many LETTERS that tell nothing, 1800 of them by abbreviations, then these. */
    private static Story manyLetters(int count, int... last) {
        int[] letters = Story.join(Story.repeat(60, 1, 5), Story.repeat(count - 60 * 32 - last.length, 5), last);
        return story(letters, Story.repeat(30, 5));
    }

    private static void twoThousand() {
        CHECK.says("by 2000 LETTERS at most .. the next LETTER .. HALT 13");
        TaleMachine x = manyLetters(1998, 4, 6).run(1);
        CHECK.told("1998", x, "A");
        CHECK.due("it can go on", x.state(), 1);
        TaleMachine y = manyLetters(2001, 4, 7, 5).run(1);
        CHECK.halted("2001", y, 13, CODE);
        CHECK.told("LETTER 2000 tells", y, "B");
        TaleMachine z = manyLetters(2001, 4, 4, 7).run(1);
        CHECK.halted("LETTER 2001", z, 13, CODE);
        CHECK.told("it does not tell", z, "");
    }

    private static void countedToo() {
        CHECK.says("(those of what stands for one counted, too)");
        // 2 LETTERS and 30: 62 of them are 1984, 16 more are 2000
        int[] letters = Story.join(Story.repeat(62, 1, 5), Story.repeat(14, 5), Story.code(4, 6));
        CHECK.due("a TEXT of 140 LETTERS is filled with one", letters.length, 140);
        TaleMachine x = story(letters, Story.repeat(30, 5)).run(1);
        CHECK.halted("the filling is LETTER 2001", x, 13, CODE);
        CHECK.told("LETTER 2000 tells", x, "A");
        TaleMachine y = story(Story.repeat(141, 5), 5, 5, 5).run(1);
        CHECK.due("141 LETTERS, none of which stands for others", y.state(), 1);
    }

    private static void aheadOfWhatItDoes() {
        CHECK.says("the next LETTER (ahead of what it does): HALT 13");
        TaleMachine x = manyLetters(2001, 5, 6, 1, 1).run(1);
        CHECK.halted("the second LETTER of a code", x, 13, CODE);
        CHECK.told("it is not told", x, "");
        TaleMachine y = manyLetters(2001, 1, 0).word(ABBREVIATIONS, 512).run(1);
        CHECK.halted("x of an abbreviation out of MEMORY", y, 13, CODE);
        // 62 abbreviations are 1984 LETTERS, with 3 and 31 1986: LETTER 14 of the last one is LETTER 2000
        int[] letters = Story.join(Story.repeat(62, 1, 5), Story.code(3, 31));
        Story story = story(letters, Story.repeat(30, 5)).word(ABBREVIATIONS + 190, 360);
        CHECK.halted("one within one, as LETTER 2000",
                story.at(720, Story.pack(5, 5, 5, 5, 5, 5, 5, 5, 5, 5, 5, 5, 5, 1, 5)).run(1), 12, CODE);
        CHECK.halted("one within one, as LETTER 2001",
                story.at(720, Story.pack(5, 5, 5, 5, 5, 5, 5, 5, 5, 5, 5, 5, 5, 5, 1)).run(1), 13, CODE);
        lettersOutOfMemory(4, 1);
        lettersOutOfMemory(5, 13);
    }

    /** An abbreviation of so many WORDS up to the end of MEMORY, whose LETTER 12 is LETTER 2000. */
    private static void lettersOutOfMemory(int words, int halt) {
        int[] letters = Story.join(Story.repeat(62, 1, 5), Story.code(5, 5, 3, 31));
        int at = Story.SIZE - 2 * words;
        Story story = story(letters, Story.repeat(30, 5)).word(ABBREVIATIONS + 190, at / 2);
        for (int i = 0; i < words; i++) {
            story.word(at + 2 * i, 5 << 10 | 5 << 5 | 5);
        }
        CHECK.halted(words + " WORDS, then none", story.run(1), halt, CODE);
    }

    private static void eachTextAlone() {
        CHECK.says("A TEXT tells 500 codes at most (.. each TEXT)");
        int[] a45 = Story.repeat(45, 6);
        Story twice = story(Story.manyCodes(450), a45).at(CODE + 15, print(Story.manyCodes(450)));
        TaleMachine x = twice.run(2);
        CHECK.due("two of 450", x.count(0), 900);
        CHECK.due("they can go on", x.state(), 1);
        Story letters = manyLetters(1998, 4, 6);
        TaleMachine y = letters.at(CODE + 1 + 66 * 2, 0x8C, 255, 256 - 66 * 2 - 2).run(3);
        CHECK.due("twice 1998 LETTERS", y.state(), 1);
        CHECK.told("both tell", y, "AA");
        TaleMachine z = story(new int[] {1, 0}, 6, 1, 0).at(700, Story.pack(1, 31)).word(ABBREVIATIONS + 62, 375)
                .at(750, Story.pack(7, 7, 7)).loaded();
        CHECK.due("a HALT within an abbreviation", z.text(CODE + 1, -4), -22);
        CHECK.due("the next TEXT is within none", z.text(700, -4), 3);
        CHECK.due("a HALT of LETTERS", manyLetters(2001, 4, 7, 5).loaded().text(CODE + 1, -4), -23);
    }

    private static void theOutput() {
        CHECK.says("THE OUTPUT gets codes 32 .. 126, 13 (a new line); of others, but 0, a ?.");
        for (int code = 0; code < 1024; code += code < 140 ? 1 : 59) {
            String want = code == 0 ? "" : code >= 32 && code <= 126 || code == 13 ? String.valueOf((char) code) : "?";
            tells(want, 5, 6, code >> 5, code & 31, 5, 5);
        }
    }

    private static void printChar() {
        CHECK.says("(print_char likewise.)");
        for (int code : new int[] {0, 1, 9, 10, 12, 13, 14, 31, 32, 33, 63, 125, 126, 127, 128, 255, 256, 269, 321, 32768, 65535}) {
            String want = code == 0 ? "" : code >= 32 && code <= 126 || code == 13 ? String.valueOf((char) code) : "?";
            TaleMachine x = Story.of(Orders.var(Orders.PRINT_CHAR, code)).run(1);
            CHECK.told("code " + code, x, want);
            CHECK.due("code " + code + ": how many", x.count(0), want.length());
        }
    }

    private static void printNum() {
        CHECK.says("6 print_num (SIGNED)");
        for (int n : new int[] {0, 1, 9, 10, 99, 100, 999, 1000, 9999, 10000, 10001, 32767, 32768, 32769, 55536, 65526, 65535}) {
            CHECK.told("print_num " + n, Story.of(Orders.var(Orders.PRINT_NUM, n)).run(1), String.valueOf((short) n));
        }
    }

    private static void newLine() {
        CHECK.says("11 a new line");
        TaleMachine x = Story.of(Orders.none(Orders.NEW_LINE), Orders.none(Orders.NEW_LINE)).run(2);
        CHECK.told("two", x, "\r\r");
        CHECK.due("PC", x.count(4), CODE + 2);
    }

    private static void printRet() {
        CHECK.says("3 that, a new line, and rtrue");
        Story story = Story.of(Orders.call(Story.ROUTINE, 0)).at(Story.ROUTINE, Story.join(Story.code(0, 0xB3), Story.pack(6, 7, 8)));
        TaleMachine x = story.run(2);
        CHECK.told("in a FRAME", x, "abc\r");
        CHECK.due("it answers", x.word(0, false), 1);
        TaleMachine y = Story.of(Orders.none(Orders.PRINT_RET, Story.pack(6, 7, 8))).run(1);
        CHECK.halted("in the first FRAME", y, 4, CODE);
        CHECK.told("TEXT and new line stay", y, "abc\r");
        TaleMachine z = Story.atEnd(0xB3, 0x18, 0xC6).run(1);
        CHECK.halted("a TEXT without an end", z, 1, 1021);
        CHECK.told("no new line behind it", z, "aaa");
    }

    private static void threeHundred() {
        CHECK.says("300 of it are told, all counted.");
        int[] a45 = Story.repeat(45, 6);
        TaleMachine x = story(Story.manyCodes(299), a45).run(1);
        CHECK.due("299: the last one", x.out(298), 'b');
        CHECK.due("299: none behind it", x.out(299), -1);
        TaleMachine y = story(Story.manyCodes(300), a45).run(1);
        CHECK.due("300: the last one", y.out(299), 'b');
        CHECK.due("300: none behind it", y.out(300), -1);
        TaleMachine z = story(Story.manyCodes(301), a45).run(1);
        CHECK.due("301 are counted", z.count(0), 301);
        CHECK.due("301: the first one", z.out(0), 'a');
        CHECK.due("301: the 300th", z.out(299), 'b');
        CHECK.due("301: not told", z.out(300), -1);
        TaleMachine v = Story.of(Orders.none(Orders.NEW_LINE), Orders.one(Orders.JUMP, 65534)).loaded();
        for (int i = 0; i < 4; i++) {
            v.run(300);
        }
        CHECK.due("600 by ORDERS are counted", v.count(0), 600);
        CHECK.due("and told", v.out(299), 13);
    }
}
