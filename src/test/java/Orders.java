/** ORDERS as bytes, with a WORD for each number that is an operand. */
final class Orders {
    static final int JE = 1, JL = 2, JG = 3, DEC_CHK = 4, INC_CHK = 5, JIN = 6, TEST = 7, OR = 8, AND = 9,
            TEST_ATTR = 10, SET_ATTR = 11, CLEAR_ATTR = 12, STORE = 13, INSERT_OBJ = 14, LOADW = 15, LOADB = 16,
            GET_PROP = 17, GET_PROP_ADDR = 18, GET_NEXT_PROP = 19, ADD = 20, SUB = 21, MUL = 22, DIV = 23, MOD = 24;
    static final int JZ = 0, GET_SIBLING = 1, GET_CHILD = 2, GET_PARENT = 3, GET_PROP_LEN = 4, INC = 5, DEC = 6,
            PRINT_ADDR = 7, REMOVE_OBJ = 9, PRINT_OBJ = 10, RET = 11, JUMP = 12, PRINT_PADDR = 13, LOAD = 14, NOT = 15;
    static final int RTRUE = 0, RFALSE = 1, PRINT = 2, PRINT_RET = 3, NOTHING = 4, RESTART = 7, RET_POPPED = 8,
            POP = 9, QUIT = 10, NEW_LINE = 11, VERIFY = 13;
    static final int CALL = 0, STOREW = 1, STOREB = 2, PUT_PROP = 3, READ = 4, PRINT_CHAR = 5, PRINT_NUM = 6,
            RANDOM = 7, PUSH = 8, PULL = 9;

    /** A BRANCH of the short form that leaves out 3 bytes, if it is so. */
    static final int SKIPS = 0xC5;

    private Orders() {
    }

    static int[] none(int op, int... behind) {
        return Story.join(Story.code(0xB0 | op), behind);
    }

    static int[] one(int op, int a, int... behind) {
        return Story.join(Story.code(0x80 | op, a >> 8, a & 255), behind);
    }

    static int[] two(int op, int a, int b, int... behind) {
        return Story.join(Story.code(0xC0 | op, 0x0F, a >> 8, a & 255, b >> 8, b & 255), behind);
    }

    static int[] var(int op, int... numbers) {
        int[] order = {0xE0 | op, 0};
        for (int i = 0; i < 4; i++) {
            order[1] = order[1] << 2 | (i < numbers.length ? 0 : 3);
        }
        for (int number : numbers) {
            order = Story.join(order, Story.code(number >> 8, number & 255));
        }
        return order;
    }

    static int[] push(int number) {
        return var(PUSH, number);
    }

    static int[] storeb(int address, int value) {
        return var(STOREB, address, 0, value);
    }

    static int[] storew(int address, int value) {
        return var(STOREW, address, 0, value);
    }

    /** A call of the routine at an address, whose answer goes to VARIABLE s. */
    static int[] call(int address, int s, int... others) {
        return Story.join(var(CALL, Story.join(Story.code(address / 2), others)), Story.code(s));
    }

    /** Pushes 5 so often, by 3 ORDERS each time but for the last one, and counts in a GLOBAL that is 0 at first. */
    static int[] pushes(int times, int global) {
        return Story.code(0xE8, 0x7F, 5, 0x05, global, times - 1, SKIPS, 0x8C, 255, 248);
    }
}
