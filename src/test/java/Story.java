import java.nio.charset.StandardCharsets;
import java.util.Arrays;

/** Lays out the bytes of a STORY for the tests. */
final class Story {
    static final int GLOBALS = 64;
    static final int OBJECTS = 96;
    static final int FIRST_OBJECT = OBJECTS + 62;
    static final int NAMES = 210;
    static final int LINE = 280;
    static final int WORDS = 296;
    static final int MARK = 340;
    static final int ABBREVIATIONS = 340;
    static final int DICTIONARY = 540;
    static final int ROUTINE = 600;
    static final int TEXTS = 660;
    static final int CODE = 760;
    static final int SIZE = 1024;
    static final int QUIT = 0xBA;

    /** VARIABLES of the first two GLOBALS. */
    static final int G0 = 16, G1 = 17;

    private static final String THIRD = "0123456789.,!?_#'\"/\\-:()";

    private int[] bytes;

    /** A STORY of all parts, with the code to begin with. */
    Story(int... code) {
        bytes = new int[SIZE];
        at(0, 3);
        word(4, MARK).word(6, CODE).word(8, DICTIONARY).word(10, OBJECTS).word(12, GLOBALS);
        word(14, MARK).word(24, ABBREVIATIONS);
        at(CODE, code);
    }

    /** A STORY of all parts that begins with these ORDERS. */
    static Story of(int[]... orders) {
        return new Story(join(orders));
    }

    /** A STORY of one ORDER, whose last byte is the last one of MEMORY. */
    static Story atEnd(int... order) {
        int at = SIZE - order.length;
        return new Story().at(at, order).word(6, at);
    }

    Story at(int address, int... values) {
        for (int i = 0; i < values.length; i++) {
            bytes[address + i] = values[i];
        }
        return this;
    }

    Story word(int address, int value) {
        return at(address, value >> 8, value & 255);
    }

    Story global(int number, int value) {
        return word(GLOBALS + 2 * number, value);
    }

    /** OBJECT o with its parent, sibling, child and where its name is. */
    Story object(int o, int parent, int sibling, int child, int name) {
        int place = FIRST_OBJECT + 9 * (o - 1);
        return at(place + 4, parent, sibling, child).word(place + 7, name);
    }

    Story cut(int size) {
        bytes = Arrays.copyOf(bytes, size);
        return this;
    }

    /** THE MARK, and the WORD at 4, which may not be below it. */
    Story mark(int address) {
        return word(14, address).word(4, Math.max(address, MARK));
    }

    int byteAt(int address) {
        return bytes[address];
    }

    int size() {
        return bytes.length;
    }

    int sum() {
        int sum = 0;
        for (int i = 64; i < bytes.length; i++) {
            sum += bytes[i];
        }
        return sum & 65535;
    }

    private int number(int i) {
        int number = 0;
        for (int k = 0; k < 4; k++) {
            number = number << 8 | (i + k < bytes.length ? bytes[i + k] : 0);
        }
        return number;
    }

    /** Feeds the STORY; answers what load() answers. */
    int loadInto(TaleMachine x) {
        for (int i = 0; i < bytes.length; i += 32) {
            x.feed(number(i), number(i + 4), number(i + 8), number(i + 12),
                    number(i + 16), number(i + 20), number(i + 24), number(i + 28));
        }
        x.end(bytes.length);
        return x.load();
    }

    TaleMachine loaded() {
        TaleMachine x = new TaleMachine();
        int answer = loadInto(x);
        if (answer != 0) {
            throw new IllegalStateException("load() answered " + answer);
        }
        return x;
    }

    /** Loaded, and run for so many ORDERS. */
    TaleMachine run(int fuel) {
        TaleMachine x = loaded();
        x.run(fuel);
        return x;
    }

    static int[] join(int[]... parts) {
        int[] all = new int[0];
        for (int[] part : parts) {
            int from = all.length;
            all = Arrays.copyOf(all, from + part.length);
            System.arraycopy(part, 0, all, from, part.length);
        }
        return all;
    }

    static int[] code(int... bytes) {
        return bytes;
    }

    static int[] repeat(int times, int... part) {
        int[] all = new int[times * part.length];
        for (int i = 0; i < all.length; i++) {
            all[i] = part[i % part.length];
        }
        return all;
    }

    /** Four codes of a text as one number that line() takes, filled with 0. */
    static int four(String text, int from) {
        byte[] codes = text.getBytes(StandardCharsets.ISO_8859_1);
        int number = 0;
        for (int i = from; i < from + 4; i++) {
            number = number << 8 | (i < codes.length ? codes[i] & 255 : 0);
        }
        return number;
    }

    /** The WORD at an address, as it is now. */
    static int wordOf(TaleMachine x, int address) {
        return x.peek(address) * 256 + x.peek(address + 1);
    }

    /** LETTERS of a TEXT of so many codes, where ABBREVIATION 5 tells 45 of them; what it does not tell is b. */
    static int[] manyCodes(int count) {
        int[] letters = new int[2 * (count / 45) + count % 45];
        for (int i = 0; i < letters.length; i++) {
            letters[i] = i >= 2 * (count / 45) ? 7 : i % 2 == 0 ? 1 : 5;
        }
        return letters;
    }

    /** LETTERS as the bytes of a TEXT, filled with 5. */
    static int[] pack(int... letters) {
        int words = Math.max(1, (letters.length + 2) / 3);
        int[] filled = Arrays.copyOf(letters, 3 * words);
        Arrays.fill(filled, letters.length, filled.length, 5);
        int[] packed = new int[2 * words];
        for (int i = 0; i < words; i++) {
            int word = filled[3 * i] << 10 | filled[3 * i + 1] << 5 | filled[3 * i + 2];
            word |= i == words - 1 ? 32768 : 0;
            packed[2 * i] = word >> 8;
            packed[2 * i + 1] = word & 255;
        }
        return packed;
    }

    /** A text of a .. z, blanks and signs of the third row as the bytes of a TEXT. */
    static int[] spell(String text) {
        int[] letters = new int[0];
        for (char c : text.toCharArray()) {
            if (c == ' ') {
                letters = join(letters, code(0));
            } else if (c >= 'a' && c <= 'z') {
                letters = join(letters, code(c - 'a' + 6));
            } else {
                letters = join(letters, code(5, 8 + THIRD.indexOf(c)));
            }
        }
        return pack(letters);
    }
}
