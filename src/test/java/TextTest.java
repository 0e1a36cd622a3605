/** TEXT and THE OUTPUT: promises 9 and 13, and the ORDERS that print. */
public final class TextTest {
    private static final Check CHECK = new Check();
    private static final int CODE = Story.CODE;
    private static final int TEXTS = Story.TEXTS;
    private static final int BEHIND = 700;

    public static void main(String[] args) {
        rows();
        codes();
        cutOff();
        abbreviations();
        printing();
        numbersAndChars();
        output();
        textCall();
        mostCodes();
        mostLetters();
        CHECK.finish();
    }

    private static int[] print(int... letters) {
        return Story.join(Story.code(0xB2), Story.pack(letters));
    }

    private static void tells(String what, String want, int... letters) {
        TaleMachine x = new Story(print(letters)).run(1);
        CHECK.told(what, x, want);
        CHECK.due(what + ": the state", x.state(), 1);
        CHECK.due(what + ": PC", x.count(4), CODE + 1 + Story.pack(letters).length);
    }

    private static void rows() {
        int[] plain = new int[26], upper = new int[52], third = new int[50];
        for (int i = 0; i < 26; i++) {
            plain[i] = 6 + i;
            upper[2 * i] = 4;
            upper[2 * i + 1] = 6 + i;
        }
        for (int i = 0; i < 25; i++) {
            third[2 * i] = 5;
            third[2 * i + 1] = 7 + i;
        }
        tells("the first row", "abcdefghijklmnopqrstuvwxyz", plain);
        tells("the second row", "ABCDEFGHIJKLMNOPQRSTUVWXYZ", upper);
        tells("the third row", "\r0123456789.,!?_#'\"/\\-:()", third);
        tells("blanks", " a ", 0, 6, 0);
        tells("a row is for one LETTER", "Aa", 4, 6, 6);
        tells("a row, then a blank", " a", 4, 0, 6);
        tells("the last row counts", "0A", 4, 5, 8, 5, 4, 6);
        tells("a WORD of blanks alone", "   ", 0, 0, 0);
        tells("nothing but filling", "", 5, 5, 5);
    }

    private static void codes() {
        tells("a code", "A", 5, 6, 2, 1);
        tells("then the first row", "Aa", 5, 6, 2, 1, 6);
        tells("code 0 is none", "a", 5, 6, 0, 0, 6);
        tells("code 13", "\r", 5, 6, 0, 13);
        tells("code 126", "~", 5, 6, 3, 30);
        tells("codes that are not told as they are", "????", 5, 6, 3, 31, 5, 6, 0, 10, 5, 6, 31, 31, 5, 6, 0, 31);
        tells("code 32", " ", 5, 6, 1, 0);
        tells("6 of the second row is A", "A", 4, 6);
        tells("1 to 5 within a code", "a", 5, 6, 3, 1);
    }

    private static void cutOff() {
        tells("a row at the end", "ab", 6, 7, 4);
        tells("a code without both parts", "a", 6, 5, 6);
        tells("a code without its second part", "", 5, 6, 3);
        tells("an abbreviation without its LETTER", "ab", 6, 7, 1);
        TaleMachine x = new Story().at(1020, 0xB2, 0x18, 0xC6, 0x18).word(6, 1020).run(1);
        CHECK.halted("a TEXT without an end", x, 1, 1020);
        CHECK.told("what is told stays", x, "aaa");
    }

    /** WORD n of ABBREVIATIONS is the TEXT. */
    private static Story abbreviated(int n, int[] text, int... code) {
        return new Story(code).word(Story.ABBREVIATIONS + 2 * n, TEXTS / 2).at(TEXTS, text);
    }

    private static void abbreviations() {
        int[] the = Story.spell("the ");
        CHECK.told("1, 0", abbreviated(0, the, print(1, 0, 6)).run(1), "the a");
        CHECK.told("1, 31", abbreviated(31, the, print(1, 31, 6)).run(1), "the a");
        CHECK.told("2, 0", abbreviated(32, the, print(6, 2, 0, 6)).run(1), "athe a");
        CHECK.told("3, 31", abbreviated(95, the, print(3, 31)).run(1), "the ");
        CHECK.told("twice", abbreviated(5, the, print(1, 5, 1, 5, 4, 6)).run(1), "the the A");
        CHECK.told("a row ahead of it is gone", abbreviated(5, the, print(4, 1, 5, 6)).run(1), "the a");
        CHECK.told("a row at its end is gone", abbreviated(5, Story.pack(6, 6, 4), print(1, 5, 6)).run(1), "aaa");
        CHECK.told("a code at its end is gone", abbreviated(5, Story.pack(5, 6, 3), print(1, 5, 6)).run(1), "a");
        CHECK.due("PC behind the outer TEXT", abbreviated(5, the, print(1, 5, 6)).run(1).count(4), CODE + 3);
        for (int letter = 1; letter <= 3; letter++) {
            TaleMachine x = abbreviated(5, Story.pack(7, letter, 5), print(6, 1, 5)).run(1);
            CHECK.halted("one within one, by " + letter, x, 12, CODE);
            CHECK.told("what is told stays", x, "ab");
        }
        CHECK.told("1 as a part of a code within one", abbreviated(5, Story.pack(5, 6, 3, 1), print(1, 5)).run(1), "a");
        CHECK.halted("ABBREVIATIONS out of MEMORY",
                new Story(print(1, 0)).word(24, 1024).run(1), 1, CODE);
        CHECK.halted("its TEXT out of MEMORY",
                new Story(print(1, 0)).word(Story.ABBREVIATIONS, 512).run(1), 1, CODE);
    }

    private static void printing() {
        Story story = new Story().at(TEXTS, Story.spell("hello"));
        CHECK.told("print_addr", story.at(CODE, 0x87, TEXTS >> 8, TEXTS & 255).run(1), "hello");
        CHECK.told("print_paddr", story.at(CODE, 0x8D, TEXTS / 2 >> 8, TEXTS / 2 & 255).run(1), "hello");
        CHECK.told("print_paddr modulo 65536",
                story.at(CODE, 0x8D, TEXTS / 2 + 32768 >> 8, TEXTS / 2 & 255).run(1), "hello");
        CHECK.due("PC behind print_addr", story.at(CODE, 0x87, TEXTS >> 8, TEXTS & 255).run(1).count(4), CODE + 3);
        CHECK.due("PC behind print_paddr", story.at(CODE, 0x8D, 1, 0x4A).run(1).count(4), CODE + 3);
        CHECK.halted("print_addr at L", story.at(CODE, 0x87, 4, 0).run(1), 1, CODE);
        CHECK.told("new lines", new Story(0xBB, 0xBB).run(2), "\r\r");
        int[] printRet = Story.join(Story.code(0, 0xB3), Story.spell("yes"));
        TaleMachine x = new Story(0xE0, 0x3F, 1, 0x2C, 0).at(Story.ROUTINE, printRet).run(2);
        CHECK.told("print_ret", x, "yes\r");
        CHECK.due("print_ret answers", x.word(0, false), 1);
        CHECK.due("print_ret goes back", x.count(4), CODE + 5);
        TaleMachine y = new Story(Story.join(Story.code(0xB3), Story.spell("no"))).run(1);
        CHECK.halted("print_ret of the first FRAME", y, 4, CODE);
        CHECK.told("what it told stays", y, "no\r");
    }

    private static String number(int number) {
        TaleMachine x = new Story(0xE6, 0x3F, number >> 8, number & 255).run(1);
        StringBuilder told = new StringBuilder();
        for (int i = 0; i < x.count(0); i++) {
            told.append((char) x.out(i));
        }
        return told.toString();
    }

    private static void numbersAndChars() {
        for (int n : new int[] {0, 7, 10, 99, 100, 1000, 12345, 32767}) {
            CHECK.due("print_num " + n, number(n).equals("" + n) ? 1 : 0, 1);
        }
        CHECK.due("print_num -1", number(65535).equals("-1") ? 1 : 0, 1);
        CHECK.due("print_num -32768", number(32768).equals("-32768") ? 1 : 0, 1);
        CHECK.due("PC behind print_num", new Story(0xE6, 0x7F, 5).run(1).count(4), CODE + 3);
        TaleMachine x = new Story(0xE5, 0x7F, 65, 0xE5, 0x7F, 0, 0xE5, 0x7F, 13, 0xE5, 0x7F, 126,
                0xE5, 0x7F, 127, 0xE5, 0x7F, 31, 0xE5, 0x3F, 1, 65, 0xE5, 0x7F, 32).run(8);
        CHECK.told("print_char", x, "A\r~??? ");
    }

    private static void output() {
        TaleMachine x = new Story(print(6, 7)).run(1);
        CHECK.due("out(0)", x.out(0), 'a');
        CHECK.due("out(1)", x.out(1), 'b');
        CHECK.due("out(2)", x.out(2), -1);
        CHECK.due("out(-1)", x.out(-1), -1);
        // prints b, then 99 a and one more sign, over and over
        int[] hundred = new int[99];
        java.util.Arrays.fill(hundred, 6);
        hundred[0] = 7;
        int[] back = {0x8C, 255, 187};
        TaleMachine y = new Story(Story.join(print(hundred), Story.code(0xBB), back)).run(9);
        CHECK.due("300 codes", y.count(0), 300);
        CHECK.due("the last of them", y.out(299), 13);
        y.run(2);
        CHECK.due("all are counted", y.count(0), 400);
        CHECK.due("the first ones are told", y.out(0), 'b');
        CHECK.due("the 300th is told", y.out(299), 13);
        CHECK.due("the 301st is not", y.out(300), -1);
    }

    private static void textCall() {
        Story story = abbreviated(5, Story.spell("the "), 0xBB).at(BEHIND, Story.pack(1, 5, 4, 13, 5, 6, 3, 31, 5, 7));
        TaleMachine x = story.run(1);
        CHECK.due("how many", x.text(BEHIND, -4), 7);
        String want = "the H?\r";
        for (int i = 0; i < want.length(); i++) {
            CHECK.due("code " + i, x.text(BEHIND, i), want.charAt(i));
        }
        CHECK.due("code 7", x.text(BEHIND, 7), -1);
        CHECK.due("code -1", x.text(BEHIND, -1), -1);
        CHECK.due("code -5", x.text(BEHIND, -5), -1);
        CHECK.due("THE OUTPUT stays", x.count(0), 1);
        CHECK.due("the state stays", x.state(), 1);
        CHECK.due("HALT 1", x.text(1023, 0), -11);
        CHECK.due("HALT 1, how many", x.text(65535, -4), -11);
        CHECK.due("an address modulo 65536", x.text(65536 + BEHIND, -4), 7);
        CHECK.due("none of its HALTS stays", x.count(5), 0);
        TaleMachine y = abbreviated(5, Story.pack(7, 1, 5)).at(BEHIND, Story.pack(1, 5)).loaded();
        CHECK.due("HALT 12", y.text(BEHIND, 0), -22);
        TaleMachine z = new Story(0xBE).at(BEHIND, Story.spell("abc")).run(1);
        CHECK.due("of a HALTED one", z.text(BEHIND, -4), 3);
        CHECK.due("its own HALT stays", z.count(5), 6);
        CHECK.due("no code told by it", new Story().at(BEHIND, Story.pack(5, 5, 5)).loaded().text(BEHIND, -4), 0);
    }

    /** A TEXT of so many codes, by an abbreviation of 45 of them. */
    private static Story longText(int codes) {
        return abbreviated(5, Story.pack(Story.repeat(45, 6)), print(Story.manyCodes(codes)));
    }

    private static void mostCodes() {
        CHECK.due("200 codes", longText(200).loaded().text(CODE + 1, -4), 200);
        CHECK.due("code 199", longText(200).loaded().text(CODE + 1, 199), 'b');
        CHECK.due("201 codes", longText(201).loaded().text(CODE + 1, -4), -1);
        CHECK.due("201 codes, the first", longText(201).loaded().text(CODE + 1, 0), -1);
        TaleMachine x = longText(500).run(1);
        CHECK.due("500 codes", x.state(), 1);
        CHECK.due("500 of them", x.count(0), 500);
        TaleMachine y = longText(501).run(1);
        CHECK.halted("501 codes", y, 13, CODE);
        CHECK.due("500 are told", y.count(0), 500);
        int[] letters = {1, 5, 1, 5, 1, 5, 1, 5, 1, 5, 1, 5, 1, 5, 1, 5, 1, 5, 1, 5, 1, 5};
        int[] end = Story.join(letters, Story.code(6, 6, 6, 6, 6, 5, 6, 0, 0));
        TaleMachine z = abbreviated(5, Story.pack(Story.repeat(45, 6)), print(end)).run(1);
        CHECK.due("a code 0 behind the 500th", z.state(), 1);
    }

    /** A TEXT of one code by so many LETTERS: 60 abbreviations of 30 LETTERS that tell nothing, then filling. */
    private static TaleMachine manyLetters(int count) {
        int[] letters = Story.repeat(count - 60 * 30, 5);
        for (int i = 0; i < 60; i++) {
            letters[2 * i] = 1;
            letters[2 * i + 1] = 5;
        }
        letters[letters.length - 2] = 4;
        letters[letters.length - 1] = 6;
        return abbreviated(5, Story.pack(Story.repeat(30, 5)), print(letters)).run(1);
    }

    private static void mostLetters() {
        TaleMachine x = manyLetters(1998);
        CHECK.due("1998 LETTERS", x.state(), 1);
        CHECK.told("the last one tells", x, "A");
        TaleMachine y = manyLetters(2001);
        CHECK.halted("2001 LETTERS", y, 13, CODE);
        CHECK.told("the last one does not tell", y, "");
        CHECK.due("text() of it", y.text(CODE + 1, -4), -23);
        // 666 WORDS are 1998 LETTERS: LETTER 2000 is the second one of a WORD
        int[] tail = Story.repeat(201, 5);
        for (int i = 0; i < 60; i++) {
            tail[2 * i] = 1;
            tail[2 * i + 1] = 5;
        }
        tail[198] = 4;
        tail[199] = 7;
        tail[200] = 8;
        TaleMachine z = abbreviated(5, Story.pack(Story.repeat(30, 5)), print(tail)).run(1);
        CHECK.halted("the third of the last WORD", z, 13, CODE);
        CHECK.told("the second one told", z, "B");
    }
}
