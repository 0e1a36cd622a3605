/** A small STORY: it tells "hello", reads a line, and tells how many WORDS the line has. */
public final class Example {
    private static final int LINE = 64, WORDS = 74, MARK = 84, DICTIONARY = 84, CODE = 92;

    private static int[] story() {
        int[] bytes = new int[110];
        lay(bytes, 0, 3);                                   // the version
        lay(bytes, 4, 0, MARK, 0, CODE, 0, DICTIONARY);
        lay(bytes, 14, 0, MARK);                            // bytes below it can be written
        lay(bytes, LINE, 8);                                // a line has 8 codes at most
        lay(bytes, WORDS, 2);                               // 2 WORDS of it are told at most
        lay(bytes, DICTIONARY, 0, 4, 0, 1, 0x32, 0x85, 0x94, 0xA5);     // one entry: "go"
        lay(bytes, CODE,
                0xB2, 0x35, 0x51, 0xC6, 0x85,               // print "hello"
                0xBB,                                       // a new line
                0xE4, 0x5F, LINE, WORDS,                    // read
                0x10, WORDS, 1, 0,                          // loadb: how many WORDS, to THE STACK
                0xE6, 0xBF, 0,                              // print_num of THE STACK's top
                0xBA);                                      // quit
        return bytes;
    }

    private static void lay(int[] bytes, int address, int... values) {
        System.arraycopy(values, 0, bytes, address, values.length);
    }

    /** Four bytes as the number that feed() takes; behind the STORY's end they are 0. */
    private static int four(int[] bytes, int from) {
        int number = 0;
        for (int i = from; i < from + 4; i++) {
            number = number << 8 | (i < bytes.length ? bytes[i] : 0);
        }
        return number;
    }

    private static int loadInto(TaleMachine tale, int[] bytes) {
        for (int i = 0; i < bytes.length; i += 32) {
            tale.feed(four(bytes, i), four(bytes, i + 4), four(bytes, i + 8), four(bytes, i + 12),
                    four(bytes, i + 16), four(bytes, i + 20), four(bytes, i + 24), four(bytes, i + 28));
        }
        tale.end(bytes.length);                             // feed() lays 32 bytes each time
        return tale.load();
    }

    public static void main(String[] args) {
        TaleMachine tale = new TaleMachine();
        System.out.println("load: " + loadInto(tale, story()));
        System.out.println("run: " + tale.run(300));
        System.out.println("save: " + tale.save(0));
        System.out.println("line: " + tale.line(0x676F206E, 0));        // "go n"
        System.out.println("where \"go\" is in DICTIONARY: " + (256 * tale.peek(WORDS + 2) + tale.peek(WORDS + 3)));
        System.out.println("run: " + tale.run(300));
        for (int i = 0; i < tale.count(0); i++) {
            System.out.print(tale.out(i) == 13 ? '\n' : (char) tale.out(i));
        }
        System.out.println();
        System.out.println("restore: " + tale.restore(0) + ", state: " + tale.state());
    }
}
