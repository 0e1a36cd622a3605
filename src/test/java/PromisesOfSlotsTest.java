/** Promises 14 to 16, sentence by sentence: save, restore, squeezed. */
public final class PromisesOfSlotsTest {
    private static final Check CHECK = new Check();
    private static final int CODE = Story.CODE, MARK = Story.MARK, ROUTINE = Story.ROUTINE;
    private static final int G0 = Story.G0, G1 = Story.G1;
    private static final int LEAST = Integer.MIN_VALUE, MOST = Integer.MAX_VALUE;

    public static void main(String[] args) {
        slotNumbers();
        saveAnswers();
        saveNotNow();
        soAgain();
        memorySoAgain();
        stateSoAgain();
        readSoAgain();
        whatStays();
        restoreNotNow();
        loadEmptiesSlots();
        xor();
        zeros();
        zerosAtTheEnd();
        anyBytes();
        squeezedBad();
        CHECK.finish();
    }

    private static void slotNumbers() {
        CHECK.says("save: Saved in slot k (0 .. 3) .. BAD");
        TaleMachine x = Story.of(Orders.storeb(64, 1), Orders.storeb(64, 2), Orders.storeb(64, 3), Orders.storeb(64, 4),
                Orders.none(Orders.QUIT)).loaded();
        for (int k = 0; k < 4; k++) {
            x.run(1);
            CHECK.due("save " + k, x.save(k), 3);
        }
        for (int k : new int[] {-1, 4, LEAST, MOST}) {
            CHECK.due("save " + k, x.save(k), -1);
            CHECK.due("restore " + k, x.restore(k), -1);
            CHECK.due("save " + k + " of none", new TaleMachine().save(k), -1);
            CHECK.due("restore " + k + " of none", new TaleMachine().restore(k), -1);
        }
        for (int k = 3; k >= 0; k--) {
            CHECK.due("restore " + k, x.restore(k), 1);
            CHECK.due("slot " + k, x.peek(64), k + 1);
            CHECK.due("PC of slot " + k, x.count(4), CODE + 8 * (k + 1));
        }
        x.run(5);
        CHECK.due("BAD is ahead of STATE", x.save(4), -1);
    }

    private static void saveAnswers() {
        CHECK.says("save: how many bytes it is squeezed to");
        TaleMachine x = Story.of(Orders.storeb(0, 4), Orders.storeb(1, 4), Orders.storeb(MARK - 1, 4), Orders.storeb(0, 3),
                Orders.storeb(1, 0), Orders.storeb(MARK - 1, 0)).loaded();
        int[] want = {0, 1, 2, 7, 8, 5, 0};
        for (int i = 0; i < want.length; i++) {
            CHECK.due("behind ORDER " + i, x.save(2), want[i]);
            x.run(1);
        }
    }

    private static void saveNotNow() {
        CHECK.says("save: STATE: the state is not 1, 3.");
        TaleMachine waits = Story.of(Orders.var(Orders.READ, 70, 80)).run(1);
        CHECK.due("3", waits.save(0), 0);
        CHECK.due("1", new Story().loaded().save(0), 0);
        CHECK.due("0", new TaleMachine().save(0), -2);
        TaleMachine ended = Story.of(Orders.storeb(64, 9), Orders.none(Orders.QUIT)).loaded();
        ended.run(1);
        ended.save(0);
        ended.run(1);
        CHECK.due("2", ended.save(0), -2);
        CHECK.due("2, another slot", ended.save(1), -2);
        CHECK.due("nothing is saved there", ended.restore(1), -2);
        CHECK.due("the slot stays", ended.squeezed(0, 2), 9);
        CHECK.due("4", Story.of(Orders.none(Orders.POP)).run(1).save(0), -2);
    }

    /** Calls within calls, with WORDS and LOCALS of all FRAMES, GLOBALS, and a line's end; 27 ORDERS. */
    private static Story nested() {
        return Story.of(Orders.push(1), Orders.call(600, G0, 11), Orders.call(640, 0, 22, 33), Orders.storeb(80, 7),
                Story.code(0x74, 0, 0, G1), Orders.call(600, 0, 12), Orders.none(Orders.QUIT))
                .at(600, Story.join(Story.code(2, 0, 1, 0, 2), Orders.push(5), Orders.call(680, 1, 44), Story.code(0x54, 1, 1, G1, 0xAB, 2)))
                .at(640, Story.join(Story.code(3, 0, 3, 0, 4, 0, 5), Orders.push(6), Orders.push(7), Orders.call(710, 0, 77, 88),
                        Story.code(0xB8)))
                .at(680, Story.join(Story.code(1, 0, 9), Orders.push(9), Story.code(0x95, 1, 0xAB, 1)))
                .at(710, Story.join(Story.code(4, 0, 6, 0, 7, 0, 8, 0, 9), Orders.push(10), Orders.push(12), Story.code(0x0D, 4, 99, 0x9B, 3)));
    }

    /** What save() keeps, as far as it can be asked, as one number. */
    private static long kept(TaleMachine x) {
        long sum = x.state();
        for (int what : new int[] {2, 3, 4, 6}) {
            sum = sum * 31 + x.count(what);
        }
        for (int i = x.count(2) - 1; i >= 0; i--) {
            sum = sum * 31 + x.word(i, false);
        }
        for (int i = x.count(6); i >= 1; i--) {
            sum = sum * 31 + x.word(i, true);
        }
        for (int at : new int[] {64, 65, 66, 67, 80}) {
            sum = sum * 31 + x.peek(at);
        }
        return sum;
    }

    private static void soAgain() {
        CHECK.says("restore: What was saved is so again (MEMORY below THE MARK, THE STACK, FRAMES, PC)");
        int all = nested().run(300).count(1);
        CHECK.due("it ends", nested().run(300).state(), 2);
        for (int ahead = 0; ahead < all; ahead++) {
            for (int more = 0; more <= all - ahead; more++) {
                TaleMachine x = nested().run(ahead);
                long before = kept(x);
                x.save(1);
                x.run(more);
                CHECK.due("restore", x.restore(1), 1);
                CHECK.due("saved behind " + ahead + ", restored " + more + " later", kept(x), before);
                for (int step = ahead + 1; step <= all; step += 4) {
                    x.run(step == ahead + 1 ? 1 : 4);
                    CHECK.due("saved behind " + ahead + ", restored " + more + " later, at " + step, kept(x), kept(nested().run(step)));
                }
            }
        }
    }

    private static void memorySoAgain() {
        CHECK.says("restore: What was saved is so again (MEMORY below THE MARK)");
        Story story = Story.of(Orders.storeb(200, 0x3C), Orders.storeb(201, 0), Orders.storeb(202, 255), Orders.storeb(200, 0xFF),
                Orders.storeb(203, 1), Orders.storeb(0, 9)).at(200, 0xF0, 0x55, 0xAA, 0x77);
        TaleMachine x = story.run(3);
        x.save(0);
        int[][] want = {{0x3C, 0, 255, 0x77, 3}, {0xF0, 0x55, 0xAA, 0x77, 3}};
        x.run(3);
        x.restore(0);
        memory("over what came later", x, want[0]);
        x.start();
        memory("as it was loaded", x, want[1]);
        x.restore(0);
        memory("over what was loaded", x, want[0]);
        x.start();
        x.save(1);
        x.run(6);
        x.restore(1);
        memory("nothing has changed", x, want[1]);
        x.run(6);
        x.save(1);
        x.start();
        x.run(1);
        CHECK.due("fewer bytes than were in that slot", x.save(1), 3);
        x.run(5);
        x.restore(1);
        memory("nothing of what the slot had", x, new int[] {0x3C, 0x55, 0xAA, 0x77, 3});
    }

    private static void memory(String what, TaleMachine x, int[] want) {
        for (int i = 0; i < 4; i++) {
            CHECK.due(what + ": byte " + (200 + i), x.peek(200 + i), want[i]);
        }
        CHECK.due(what + ": byte 0", x.peek(0), want[4]);
    }

    private static void stateSoAgain() {
        CHECK.says("restore: the state is 1, or 3 (if it was) .. : 1.");
        Story story = Story.of(Orders.var(Orders.READ, Story.LINE, Story.WORDS), Orders.none(Orders.NEW_LINE),
                Orders.none(Orders.QUIT)).at(Story.LINE, 8).at(Story.WORDS, 8);
        TaleMachine x = story.loaded();
        x.save(0);
        x.run(1);
        x.save(1);
        CHECK.due("from 3", x.restore(0), 1);
        CHECK.due("to 1", x.state(), 1);
        CHECK.due("no line then", x.line(0, 0), -2);
        CHECK.due("from 1", x.restore(1), 1);
        CHECK.due("to 3", x.state(), 3);
        CHECK.due("no run then", x.run(1), -2);
        x.line(0x61000000, 0);
        x.run(2);
        CHECK.due("ENDED", x.state(), 2);
        CHECK.due("from 2", x.restore(1), 1);
        CHECK.due("to 3", x.state(), 3);
        CHECK.due("PC", x.count(4), CODE + 6);
        TaleMachine y = Story.of(Orders.none(Orders.NOTHING), Orders.none(Orders.POP)).run(1);
        y.save(0);
        y.run(1);
        CHECK.halted("HALTED", y, 4, CODE + 1);
        CHECK.due("from 4", y.restore(0), 1);
        CHECK.due("to 1", y.state(), 1);
        CHECK.due("no HALT", y.count(5), 0);
        CHECK.due("it HALTS again", y.run(300), 4);
    }

    private static void readSoAgain() {
        CHECK.says("restore: What was saved is so again (the line that it WAITS for)");
        // the two reads have neither a nor b in common
        TaleMachine x = Story.of(Orders.var(Orders.READ, 200, 220), Orders.var(Orders.READ, 240, 260))
                .at(200, 8).at(220, 8).at(240, 8).at(260, 8).run(1);
        x.save(0);
        x.line(0x61000000, 0);
        x.run(1);
        x.save(1);
        CHECK.due("the first read", x.restore(0), 1);
        CHECK.due("its line", x.line(0x62206300, 0), 2);
        CHECK.due("where a was", x.peek(201), 'b');
        CHECK.due("where b was", x.peek(221), 2);
        CHECK.due("not where it is later", x.peek(261), 0);
        CHECK.due("the second read", x.restore(1), 1);
        CHECK.due("its line", x.line(0x64000000, 0), 1);
        CHECK.due("where a was", x.peek(241), 'd');
        CHECK.due("where b was", x.peek(261), 1);
        CHECK.due("the first line is there", x.peek(201), 'a');
        CHECK.due("as it was told", x.peek(221), 1);
    }

    private static void whatStays() {
        CHECK.says("restore: THE OUTPUT, counts, THE DRAW stay");
        int[] dice = Story.join(Orders.var(Orders.RANDOM, 100), Story.code(0));
        TaleMachine x = Story.of(dice, Orders.none(Orders.PRINT, Story.pack(6, 7, 8)), dice).loaded();
        x.feed(1, 2, 3, 4, 5, 6, 7, 8);
        x.save(0);
        x.run(3);
        CHECK.due("restore", x.restore(0), 1);
        CHECK.told("THE OUTPUT", x, "abc");
        CHECK.due("its codes", x.count(0), 3);
        CHECK.due("ORDERS begun", x.count(1), 3);
        CHECK.due("THE TAPE", x.count(9), 32);
        x.run(3);
        int draw = 1;
        for (int i = 0; i < 4; i++) {
            draw = draw * 1103515245 + 12345;
            CHECK.due("THE DRAW", i < 2 ? 0 : x.word(i - 2, false), i < 2 ? 0 : (draw >>> 16 & 32767) % 100 + 1);
        }
        CHECK.told("more of THE OUTPUT", x, "abcabc");
        CHECK.due("more ORDERS begun", x.count(1), 6);
    }

    private static void restoreNotNow() {
        CHECK.says("restore: BAD; STATE: nothing is saved there, no STORY.");
        TaleMachine x = Story.of(Orders.storeb(64, 9)).loaded();
        x.save(1);
        x.run(1);
        for (int k : new int[] {0, 2, 3}) {
            CHECK.due("slot " + k, x.restore(k), -2);
        }
        CHECK.due("nothing changes", x.peek(64), 9);
        CHECK.due("slot 1", x.restore(1), 1);
        CHECK.due("again", x.restore(1), 1);
        x.load();
        CHECK.due("no STORY", x.restore(1), -2);
        CHECK.due("no STORY, no slot", x.restore(4), -1);
    }

    private static void loadEmptiesSlots() {
        CHECK.says("restore: (load() empties slots.)");
        Story story = Story.of(Orders.storeb(64, 9));
        TaleMachine x = story.run(1);
        for (int k = 0; k < 4; k++) {
            x.save(k);
        }
        story.loadInto(x);
        for (int k = 0; k < 4; k++) {
            CHECK.due("slot " + k, x.restore(k), -2);
            CHECK.due("slot " + k + " squeezed", x.squeezed(k, 0), -1);
        }
        x.run(1);
        x.save(2);
        x.start();
        CHECK.due("start() does not", x.restore(2), 1);
        CHECK.due("MEMORY", x.peek(64), 9);
        x.load();
        CHECK.due("load() with a FAULT does", x.squeezed(2, 0), -1);
        story.loadInto(x);
        CHECK.due("and they stay so", x.restore(2), -2);
    }

    private static void squeezes(String what, TaleMachine x, int... want) {
        CHECK.due(what + ": how many", x.save(0), want.length);
        for (int i = 0; i < want.length; i++) {
            CHECK.due(what + ": byte " + i, x.squeezed(0, i), want[i]);
        }
        CHECK.due(what + ": none behind them", x.squeezed(0, want.length), -1);
    }

    private static void xor() {
        CHECK.says("squeezed: MEMORY below THE MARK xor that as it was loaded .. others as they are");
        TaleMachine x = Story.of(Orders.storeb(0, 0xFC), Orders.storeb(1, 255), Orders.storeb(2, 1), Orders.storeb(0, 3)).at(1, 0x0F).loaded();
        x.run(1);
        squeezes("255", x, 255);
        x.run(1);
        squeezes("0xF0", x, 255, 0xF0);
        x.run(1);
        squeezes("1", x, 255, 0xF0, 1);
        x.run(1);
        squeezes("as it was", x, 0, 0, 0xF0, 1);
    }

    private static void zeros() {
        CHECK.says("squeezed: 0 as 0 and how many more zeros follow (255 at most)");
        squeezes("1 zero", Story.of(Orders.storeb(1, 9)).run(1), 0, 0, 9);
        squeezes("2 zeros", Story.of(Orders.storeb(2, 9)).run(1), 0, 1, 9);
        squeezes("255 zeros", Story.of(Orders.storeb(255, 9)).run(1), 0, 254, 9);
        squeezes("256 zeros", Story.of(Orders.storeb(256, 9)).run(1), 0, 255, 9);
        squeezes("257 zeros", Story.of(Orders.storeb(257, 9)).run(1), 0, 255, 0, 0, 9);
        squeezes("258 zeros", Story.of(Orders.storeb(258, 9)).run(1), 0, 255, 0, 1, 9);
        squeezes("511 zeros", Story.of(Orders.storeb(511, 9)).mark(760).run(1), 0, 255, 0, 254, 9);
        squeezes("512 zeros", Story.of(Orders.storeb(512, 9)).mark(760).run(1), 0, 255, 0, 255, 9);
        squeezes("513 zeros", Story.of(Orders.storeb(513, 9)).mark(760).run(1), 0, 255, 0, 255, 0, 0, 9);
        squeezes("1023 zeros", Story.of(Orders.storeb(1023, 9)).mark(1024).run(1), 0, 255, 0, 255, 0, 255, 0, 254, 9);
        TaleMachine x = Story.of(Orders.storeb(1, 9), Orders.storeb(258, 8)).run(2);
        squeezes("256 zeros between", x, 0, 0, 9, 0, 255, 8);
    }

    private static void zerosAtTheEnd() {
        CHECK.says("squeezed: zeros at the end are left out");
        squeezes("nothing has changed", new Story().loaded());
        squeezes("nothing of 64 bytes", new Story().mark(64).loaded());
        squeezes("the first byte", Story.of(Orders.storeb(0, 2)).run(1), 1);
        squeezes("the first byte of 64", Story.of(Orders.storeb(0, 2)).mark(64).run(1), 1);
        squeezes("the last byte of 64", Story.of(Orders.storeb(63, 2)).mark(64).run(1), 0, 62, 2);
        squeezes("the last byte of 1024", Story.of(Orders.storeb(1023, 2)).mark(1024).run(1), 0, 255, 0, 255, 0, 255, 0, 254, 2);
        TaleMachine x = Story.of(Orders.storeb(300, 2), Orders.storeb(300, 0)).run(1);
        squeezes("byte 300", x, 0, 255, 0, 43, 2);
        x.run(1);
        squeezes("as it was", x);
    }

    private static void anyBytes() {
        CHECK.says("squeezed (any bytes)");
        long seed = 20261116;
        for (int round = 0; round < 60; round++) {
            int[] now = new int[MARK];
            int[][] orders = new int[20][];
            for (int i = 0; i < orders.length; i++) {
                seed = seed * 6364136223846793005L + 1442695040888963407L;
                int at = round % 3 == 0 ? (int) (seed >>> 33) % 30 + 100 : (int) (seed >>> 33) % (MARK - 64) + 64;
                now[at] = (int) (seed >>> 60) % 3;
                orders[i] = Orders.storeb(at, now[at]);
            }
            TaleMachine x = Story.of(orders).run(20);
            squeezes("round " + round, x, plainly(now));
            x.start();
            x.restore(0);
            int wrong = 0;
            for (int at = 64; at < MARK; at++) {
                wrong += x.peek(at) == now[at] ? 0 : 1;
            }
            CHECK.due("round " + round + ": restored bytes that are others", wrong, 0);
        }
    }

    /** The same, in its plainest form. */
    private static int[] plainly(int[] bytes) {
        int end = bytes.length;
        while (end > 0 && bytes[end - 1] == 0) {
            end--;
        }
        int[] row = new int[0];
        int more = -1;
        for (int i = 0; i < end; i++) {
            more = bytes[i] == 0 ? more + 1 : -1;
            boolean last = bytes[i] == 0 && (bytes[i + 1] != 0 || more == 255);
            if (bytes[i] != 0) {
                row = Story.join(row, Story.code(bytes[i]));
            } else if (last) {
                row = Story.join(row, Story.code(0, more));
                more = -1;
            }
        }
        return row;
    }

    private static void squeezedBad() {
        CHECK.says("squeezed: BAD.");
        TaleMachine x = Story.of(Orders.storeb(64, 9), Orders.none(Orders.POP)).run(1);
        x.save(2);
        for (int k : new int[] {-1, 0, 1, 3, 4, LEAST, MOST}) {
            CHECK.due("slot " + k, x.squeezed(k, 0), -1);
        }
        for (int i : new int[] {-1, 3, 1535, 1536, LEAST, MOST}) {
            CHECK.due("byte " + i, x.squeezed(2, i), -1);
        }
        x.run(1);
        CHECK.due("of a HALTED one", x.squeezed(2, 2), 9);
        CHECK.due("of none", new TaleMachine().squeezed(0, 0), -1);
        TaleMachine y = Story.of(Orders.storeb(64, 9), Orders.storeb(64, 0)).run(1);
        y.save(0);
        y.run(1);
        CHECK.due("saved again", y.save(0), 0);
        CHECK.due("the older bytes are gone", y.squeezed(0, 0), -1);
        TaleMachine z = Story.of(Orders.push(1), Orders.call(ROUTINE, 0)).loaded();
        z.run(2);
        CHECK.due("THE STACK and FRAMES take no bytes", z.save(0), 0);
    }
}
