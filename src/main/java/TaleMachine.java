/**
 * A machine for tales: stories of version 3 as bytes, checked and run; objects in a forest with
 * attributes and properties, texts in squeezed letters with abbreviations, routines with locals
 * and a stack of words, lines read and parted by a dictionary; saved with what has changed
 * squeezed.
 *
 * <p>A HALT is kept in the Store as soon as it comes. From then on nothing reads, writes, tells or
 * moves any more, so that an ORDER may run on to its end without doing further harm.
 */
public final class TaleMachine {
    public static final int BAD = -1, STATE = -2, FULL = -3, NONE = -4;

    private static final int TAPE_ROOM = 1024;
    private static final int FEED_BYTES = 32;
    private static final int MOST_FUEL = 300;
    private static final int OUTPUT_TOLD = 300;
    private static final int TEXT_TOLD = 200;
    private static final int SLOTS = 4;
    private static final int TROUBLE = -10;

    private static final int NO_STORY = 0, GOES = 1, ENDED = 2, WAITS = 3, HALTED = 4;

    private static final int WORD_MASK = 65535;
    private static final String THIRD_ROW = "0123456789.,!?_#'\"/\\-:()";
    private static final int THIRD_ROW_FROM = 8;

    private final int[] tape;
    private final Store store;
    private final Frames frames;
    private final Codes output;
    private final Codes shown;
    private final Teller teller;
    private final Reader reader;
    private final Engine engine;
    private final Slot[] slots;
    private int taped;

    public TaleMachine() {
        tape = new int[TAPE_ROOM];
        store = new Store();
        frames = new Frames();
        output = new Codes(OUTPUT_TOLD);
        shown = new Codes(TEXT_TOLD);
        teller = new Teller(store);
        reader = new Reader(store);
        engine = new Engine(store, frames, output, teller);
        slots = new Slot[SLOTS];
        for (int k = 0; k < SLOTS; k++) {
            slots[k] = new Slot();
        }
        taped = 0;
    }

    public int feed(int a, int b, int c, int d, int e, int f, int g, int h) {
        if (taped + FEED_BYTES > TAPE_ROOM) {
            return FULL;
        }
        layOnTape(a);
        layOnTape(b);
        layOnTape(c);
        layOnTape(d);
        layOnTape(e);
        layOnTape(f);
        layOnTape(g);
        layOnTape(h);
        return taped;
    }

    private void layOnTape(int number) {
        for (int shift = 24; shift >= 0; shift -= 8) {
            if (taped < tape.length) {
                tape[taped] = (number >>> shift) & 255;
                taped++;
            }
        }
    }

    public int end(int n) {
        if (n < 0 || n > taped) {
            return BAD;
        }
        int had = taped;
        taped = n;
        return had;
    }

    public int load() {
        int fault = store.take(tape, taped);
        taped = 0;
        for (int k = 0; k < slots.length; k++) {
            slots[k].used = false;
        }
        if (fault != 0) {
            engine.status = NO_STORY;
            return TROUBLE - fault;
        }
        engine.begin();
        return 0;
    }

    public int run(int fuel) {
        if (fuel < 0 || fuel > MOST_FUEL) {
            return BAD;
        }
        if (engine.status != GOES) {
            return STATE;
        }
        for (int n = 0; n < fuel && engine.status == GOES; n++) {
            engine.obey();
        }
        return engine.status;
    }

    public int state() {
        return engine.status;
    }

    public int line(int a, int b) {
        if (engine.status != WAITS) {
            return STATE;
        }
        reader.hear(a, b);
        int told = reader.part(engine.lineAt, engine.wordsAt);
        if (store.halt != 0) {
            engine.status = HALTED;
            return TROUBLE - store.halt;
        }
        engine.status = GOES;
        return told;
    }

    public int start() {
        if (engine.status == NO_STORY) {
            return STATE;
        }
        engine.begin();
        return 1;
    }

    public int out(int i) {
        if (engine.status == NO_STORY) {
            return BAD;
        }
        return output.codeAt(i);
    }

    public int count(int what) {
        if (what < 0 || what > 9) {
            return BAD;
        }
        if (what == 9) {
            return taped;
        }
        if (engine.status == NO_STORY) {
            return STATE;
        }
        switch (what) {
            case 0:
                return output.total;
            case 1:
                return engine.begun;
            case 2:
                return frames.top;
            case 3:
                return frames.depth;
            case 4:
                return engine.pc;
            case 5:
                return store.halt;
            case 6:
                return frames.localCount();
            case 7:
                return store.size;
            default:
                return store.mark;
        }
    }

    public int peek(int address) {
        if (engine.status == NO_STORY || address < 0 || address >= store.size) {
            return BAD;
        }
        return store.bytes[address];
    }

    public int word(int i, boolean locals) {
        if (engine.status == NO_STORY) {
            return BAD;
        }
        if (locals) {
            return i >= 1 && i <= frames.localCount() ? frames.localAt(i) : BAD;
        }
        return i >= 0 && i < frames.top ? frames.words[i] : BAD;
    }

    public int text(int address, int i) {
        if (engine.status == NO_STORY || (i < 0 && i != NONE)) {
            return BAD;
        }
        // the STORY's own HALT, if it has one, is laid aside while the TEXT is told to the side
        int own = store.halt;
        store.halt = 0;
        shown.clear();
        teller.tell(address, shown);
        int met = store.halt;
        store.halt = own;
        if (shown.total > TEXT_TOLD) {
            return BAD;
        }
        if (met != 0) {
            return TROUBLE - met;
        }
        return i == NONE ? shown.total : shown.codeAt(i);
    }

    public int save(int k) {
        if (k < 0 || k >= slots.length) {
            return BAD;
        }
        if (engine.status != GOES && engine.status != WAITS) {
            return STATE;
        }
        slots[k].keep(store, frames, engine);
        return slots[k].size;
    }

    public int restore(int k) {
        if (k < 0 || k >= slots.length) {
            return BAD;
        }
        if (engine.status == NO_STORY || !slots[k].used) {
            return STATE;
        }
        slots[k].giveBack(store, frames, engine);
        return 1;
    }

    public int squeezed(int k, int i) {
        if (k < 0 || k >= slots.length || !slots[k].used) {
            return BAD;
        }
        return i >= 0 && i < slots[k].size ? slots[k].row[i] : BAD;
    }

    private static int signed(int number) {
        return number > 32767 ? number - 65536 : number;
    }

    /** MEMORY, as it is and as it was loaded, and the HALT that has come. */
    private static final class Store {
        private static final int LEAST_SIZE = 64;

        private final int[] bytes;
        private final int[] loaded;
        private int size;
        private int mark;
        private int firstPc;
        private int dictionary;
        private int objects;
        private int globals;
        private int abbreviations;
        private int halt;

        private Store() {
            bytes = new int[TAPE_ROOM];
            loaded = new int[TAPE_ROOM];
        }

        /** Takes the bytes as the STORY; answers its FAULT, or 0. */
        private int take(int[] tape, int taped) {
            size = Math.max(0, Math.min(taped, Math.min(tape.length, TAPE_ROOM)));
            System.arraycopy(tape, 0, loaded, 0, size);
            halt = 0;
            if (size < LEAST_SIZE) {
                return 1;
            }
            mark = loadedWord(14);
            firstPc = loadedWord(6);
            dictionary = loadedWord(8);
            objects = loadedWord(10);
            globals = loadedWord(12);
            abbreviations = loadedWord(24);
            return headerFault();
        }

        private int headerFault() {
            if (loaded[0] != 3) {
                return 2;
            }
            if (mark < LEAST_SIZE || mark > size) {
                return 3;
            }
            int high = loadedWord(4);
            if (high < mark || high > size) {
                return 4;
            }
            if (firstPc >= size) {
                return 5;
            }
            int length = 2 * loadedWord(26);
            if (length != 0 && length != size) {
                return 6;
            }
            return length != 0 && loadedWord(28) != loadedSum() ? 7 : 0;
        }

        private int loadedWord(int address) {
            return loaded[address] * 256 + loaded[address + 1];
        }

        private int loadedSum() {
            int sum = 0;
            for (int i = LEAST_SIZE; i < size; i++) {
                sum += loaded[i];
            }
            return sum & WORD_MASK;
        }

        private void renew() {
            System.arraycopy(loaded, 0, bytes, 0, size);
        }

        /** The first HALT is the one that counts. */
        private void raise(int number) {
            if (halt == 0) {
                halt = number;
            }
        }

        private int byteAt(int address) {
            int a = address & WORD_MASK;
            if (a >= size) {
                raise(1);
            }
            return halt == 0 ? bytes[a] : 0;
        }

        private int wordAt(int address) {
            int a = address & WORD_MASK;
            int b = (address + 1) & WORD_MASK;
            if (a >= size || b >= size) {
                raise(1);
            }
            return halt == 0 ? bytes[a] * 256 + bytes[b] : 0;
        }

        private void putByte(int address, int value) {
            int a = address & WORD_MASK;
            if (a >= mark) {
                raise(a >= size ? 1 : 2);
            }
            if (halt == 0) {
                bytes[a] = value & 255;
            }
        }

        private void putWord(int address, int value) {
            int a = address & WORD_MASK;
            int b = (address + 1) & WORD_MASK;
            if (a >= mark) {
                raise(a >= size ? 1 : 2);
            } else if (b >= mark) {
                raise(b >= size ? 1 : 2);
            }
            if (halt == 0) {
                bytes[a] = (value >> 8) & 255;
                bytes[b] = value & 255;
            }
        }
    }

    /** THE STACK and the FRAMES. */
    private static final class Frames {
        private static final int MOST_WORDS = 120, MOST_FRAMES = 20, MOST_LOCALS = 15;

        private final int[] words;
        private final int[] locals;
        private final int[] localCounts;
        private final int[] bases;
        private final int[] answers;
        private final int[] backs;
        private int top;
        private int depth;

        private Frames() {
            words = new int[MOST_WORDS];
            locals = new int[MOST_FRAMES * MOST_LOCALS];
            localCounts = new int[MOST_FRAMES];
            bases = new int[MOST_FRAMES];
            answers = new int[MOST_FRAMES];
            backs = new int[MOST_FRAMES];
            clear();
        }

        /** Only the first FRAME, which has no LOCALS and no call to go back to. */
        private void clear() {
            top = 0;
            depth = 1;
            localCounts[0] = 0;
            bases[0] = 0;
        }

        private void copyFrom(Frames other) {
            top = other.top;
            depth = other.depth;
            System.arraycopy(other.words, 0, words, 0, MOST_WORDS);
            System.arraycopy(other.locals, 0, locals, 0, MOST_FRAMES * MOST_LOCALS);
            System.arraycopy(other.localCounts, 0, localCounts, 0, MOST_FRAMES);
            System.arraycopy(other.bases, 0, bases, 0, MOST_FRAMES);
            System.arraycopy(other.answers, 0, answers, 0, MOST_FRAMES);
            System.arraycopy(other.backs, 0, backs, 0, MOST_FRAMES);
        }

        private boolean isFull() {
            return depth >= MOST_FRAMES;
        }

        private boolean hasOwnWord() {
            return top > bases[depth - 1];
        }

        private int localCount() {
            return localCounts[depth - 1];
        }

        private int localAt(int i) {
            return locals[(depth - 1) * MOST_LOCALS + i - 1];
        }

        private void setLocal(int i, int value) {
            locals[(depth - 1) * MOST_LOCALS + i - 1] = value;
        }

        /** A LOCAL of the FRAME that enter() will make. */
        private void prepareLocal(int i, int value) {
            locals[depth * MOST_LOCALS + i - 1] = value;
        }

        private void enter(int localCount, int answer, int back) {
            localCounts[depth] = localCount;
            bases[depth] = top;
            answers[depth] = answer;
            backs[depth] = back;
            depth++;
        }

        private void leave() {
            depth--;
            top = bases[depth];
        }
    }

    /** VARIABLES: THE STACK's top, LOCALS, and the WORDS from GLOBALS on. */
    private static final class Variables {
        private static final int FIRST_GLOBAL = 16;

        private final Store store;
        private final Frames frames;

        private Variables(Store store, Frames frames) {
            this.store = store;
            this.frames = frames;
        }

        private int valueOf(int variable) {
            if (variable == 0) {
                return pop();
            }
            if (variable >= FIRST_GLOBAL) {
                return store.wordAt(globalAt(variable));
            }
            if (variable > frames.localCount()) {
                store.raise(5);
            }
            return store.halt == 0 ? frames.localAt(variable) : 0;
        }

        private void assign(int variable, int value) {
            if (variable == 0) {
                push(value);
                return;
            }
            if (variable >= FIRST_GLOBAL) {
                store.putWord(globalAt(variable), value);
                return;
            }
            if (variable > frames.localCount()) {
                store.raise(5);
            }
            if (store.halt == 0) {
                frames.setLocal(variable, value & WORD_MASK);
            }
        }

        private int globalAt(int variable) {
            return store.globals + 2 * (variable - FIRST_GLOBAL);
        }

        private void push(int value) {
            if (frames.top >= Frames.MOST_WORDS) {
                store.raise(3);
            }
            if (store.halt == 0) {
                frames.words[frames.top] = value & WORD_MASK;
                frames.top++;
            }
        }

        private int pop() {
            if (!frames.hasOwnWord()) {
                store.raise(4);
            }
            if (store.halt != 0) {
                return 0;
            }
            frames.top--;
            return frames.words[frames.top];
        }

        /** The VARIABLE that an operand names: of 0 the top stays where it is. */
        private int namedValue(int name) {
            int variable = name & 255;
            if (variable != 0) {
                return valueOf(variable);
            }
            if (!frames.hasOwnWord()) {
                store.raise(4);
            }
            return store.halt == 0 ? frames.words[frames.top - 1] : 0;
        }

        private void assignNamed(int name, int value) {
            int variable = name & 255;
            if (variable != 0) {
                assign(variable, value);
                return;
            }
            if (!frames.hasOwnWord()) {
                store.raise(4);
            }
            if (store.halt == 0) {
                frames.words[frames.top - 1] = value & WORD_MASK;
            }
        }

        private int stepNamed(int name, int by) {
            int value = (namedValue(name) + by) & WORD_MASK;
            assignNamed(name, value);
            return value;
        }
    }

    /** Codes as THE OUTPUT gets them: the first ones are kept, all are counted. */
    private static final class Codes {
        private static final int NEW_LINE = 13, UNKNOWN = '?';

        private final int[] kept;
        private int total;

        private Codes(int room) {
            kept = new int[room];
        }

        private void clear() {
            total = 0;
        }

        private void add(int code) {
            if (code == 0) {
                return;
            }
            if (total < kept.length) {
                boolean plain = (code >= 32 && code <= 126) || code == NEW_LINE;
                kept[total] = plain ? code : UNKNOWN;
            }
            total++;
        }

        private void addNumber(int number) {
            if (number < 0) {
                add('-');
            }
            int rest = Math.abs(number);
            boolean begun = false;
            for (int unit = 10000; unit >= 1; unit /= 10) {
                begun = begun || rest >= unit || unit == 1;
                if (begun) {
                    add('0' + rest / unit % 10);
                }
            }
        }

        private int codeAt(int i) {
            return i >= 0 && i < total && i < kept.length ? kept[i] : BAD;
        }
    }

    /** Tells a TEXT. */
    private static final class Teller {
        private static final int MOST_CODES = 500, MOST_LETTERS = 2000;
        private static final int LAST = 32768;
        // each LETTER is a step, and has at most a WORD's begin and an abbreviation's end with it
        private static final int MOST_STEPS = 3 * MOST_LETTERS + 3;
        private static final int HIGH_PART = 4, LOW_PART = 5;

        private final Store store;
        private Codes sink;
        private int told;
        private int letters;
        private int at;
        private int packed;
        private int left;
        private boolean abbreviated;
        private int outerAt;
        private int outerPacked;
        private int outerLeft;
        private int row;
        private int waiting;
        private int highPart;

        private Teller(Store store) {
            this.store = store;
        }

        /** Tells the TEXT at an address; answers the address behind it. */
        private int tell(int address, Codes to) {
            sink = to;
            told = 0;
            letters = 0;
            abbreviated = false;
            open(address);
            for (int step = 0; step < MOST_STEPS && store.halt == 0; step++) {
                if (left > 0) {
                    nextLetter();
                } else if (packed < LAST) {
                    nextWord();
                } else if (abbreviated) {
                    goOnOutside();
                } else {
                    break;
                }
            }
            return at & WORD_MASK;
        }

        private void open(int address) {
            at = address;
            packed = 0;
            left = 0;
            row = 0;
            waiting = 0;
        }

        private void nextWord() {
            packed = store.wordAt(at);
            at += 2;
            left = 3;
        }

        private void goOnOutside() {
            open(outerAt);
            packed = outerPacked;
            left = outerLeft;
            abbreviated = false;
        }

        private void nextLetter() {
            if (letters >= MOST_LETTERS) {
                store.raise(13);
                return;
            }
            letters++;
            left--;
            int letter = (packed >> (5 * left)) & 31;
            if (waiting == 0) {
                emit(plainLetter(letter));
            } else if (waiting == HIGH_PART) {
                highPart = letter;
                waiting = LOW_PART;
            } else if (waiting == LOW_PART) {
                waiting = 0;
                emit(32 * highPart + letter);
            } else {
                abbreviation(32 * (waiting - 1) + letter);
            }
        }

        /** The code that a LETTER tells, or 0 if it tells none, or none yet. */
        private int plainLetter(int letter) {
            int now = row;
            row = 0;
            if (letter == 0) {
                return ' ';
            }
            if (letter <= 3) {
                await(letter);
                return 0;
            }
            if (letter <= 5) {
                row = letter - 3;
                return 0;
            }
            if (now == 2) {
                return thirdRowLetter(letter);
            }
            return (now == 1 ? 'A' : 'a') + letter - 6;
        }

        private void await(int letter) {
            if (abbreviated) {
                store.raise(12);
            } else {
                waiting = letter;
            }
        }

        private int thirdRowLetter(int letter) {
            if (letter == 6) {
                waiting = HIGH_PART;
                return 0;
            }
            if (letter == 7) {
                return Codes.NEW_LINE;
            }
            int place = letter - THIRD_ROW_FROM;
            return place >= 0 && place < THIRD_ROW.length() ? THIRD_ROW.charAt(place) : 0;
        }

        private void abbreviation(int number) {
            int address = 2 * store.wordAt(store.abbreviations + 2 * number);
            outerAt = at;
            outerPacked = packed;
            outerLeft = left;
            abbreviated = true;
            open(address);
        }

        private void emit(int code) {
            if (code == 0) {
                return;
            }
            if (told >= MOST_CODES) {
                store.raise(13);
                return;
            }
            told++;
            sink.add(code);
        }
    }

    /** OBJECTS with their ATTRIBUTES, their places in the forest and their PROPERTIES. */
    private static final class Forest {
        private static final int PARENT = 4, SIBLING = 5, CHILD = 6, NAME = 7;
        private static final int MOST_OBJECTS = 255, OBJECT_BYTES = 9;
        private static final int MOST_NUMBER = 31, DEFAULT_BYTES = 62;
        private static final int NOT_THERE = -1;

        private final Store store;

        private Forest(Store store) {
            this.store = store;
        }

        private int placeOf(int object) {
            if (object < 1 || object > MOST_OBJECTS) {
                store.raise(9);
            }
            return store.objects + DEFAULT_BYTES + OBJECT_BYTES * (object - 1);
        }

        private int linkOf(int object, int link) {
            return store.byteAt(placeOf(object) + link);
        }

        private int attributePlace(int object, int attribute) {
            int place = placeOf(object);
            if (attribute < 0 || attribute > 31) {
                store.raise(9);
            }
            return place + attribute / 8;
        }

        private boolean hasAttribute(int object, int attribute) {
            int place = attributePlace(object, attribute);
            return (store.byteAt(place) & (128 >> (attribute & 7))) != 0;
        }

        private void setAttribute(int object, int attribute, boolean on) {
            int place = attributePlace(object, attribute);
            int bit = 128 >> (attribute & 7);
            int old = store.byteAt(place);
            store.putByte(place, on ? old | bit : old & ~bit);
        }

        private void remove(int object) {
            int place = placeOf(object);
            int parent = store.byteAt(place + PARENT);
            if (parent != 0) {
                takeFrom(parent, object);
            }
            store.putByte(place + PARENT, 0);
            store.putByte(place + SIBLING, 0);
        }

        private void takeFrom(int parent, int object) {
            int ahead = placeOf(parent) + CHILD;
            int behind = placeOf(object) + SIBLING;
            int other = store.byteAt(ahead);
            for (int n = 0; n < MOST_OBJECTS && other != 0 && other != object; n++) {
                ahead = placeOf(other) + SIBLING;
                other = store.byteAt(ahead);
            }
            if (other == object) {
                store.putByte(ahead, store.byteAt(behind));
            } else {
                store.raise(11);
            }
        }

        private void insert(int object, int parent) {
            int place = placeOf(object);
            int child = placeOf(parent) + CHILD;
            if (store.halt != 0) {
                return;
            }
            remove(object);
            store.putByte(place + PARENT, parent);
            store.putByte(place + SIBLING, store.byteAt(child));
            store.putByte(child, object);
        }

        private int nameOf(int object) {
            return store.wordAt(placeOf(object) + NAME);
        }

        private int firstProperty(int object) {
            int name = store.wordAt(placeOf(object) + NAME);
            return name + 1 + 2 * store.byteAt(name);
        }

        private static int sizeBy(int head) {
            return (head >> 5) + 1;
        }

        /** Where the byte ahead of the first PROPERTY with that number is, or NOT_THERE. */
        private int findProperty(int object, int number) {
            int at = firstProperty(object);
            for (int n = 0; n < TAPE_ROOM && store.halt == 0; n++) {
                int head = store.byteAt(at);
                if ((head & 31) == 0) {
                    return NOT_THERE;
                }
                if ((head & 31) == number) {
                    return at;
                }
                at += 1 + sizeBy(head);
            }
            return NOT_THERE;
        }

        private int propertyOf(int object, int number) {
            int at = findProperty(object, number);
            if (at == NOT_THERE) {
                return defaultOf(number);
            }
            int size = sizeBy(store.byteAt(at));
            if (size > 2) {
                store.raise(10);
            }
            return size == 1 ? store.byteAt(at + 1) : store.wordAt(at + 1);
        }

        private int defaultOf(int number) {
            if (number < 1 || number > MOST_NUMBER) {
                store.raise(10);
            }
            return store.wordAt(store.objects + 2 * (number - 1));
        }

        private void setProperty(int object, int number, int value) {
            int at = findProperty(object, number);
            int size = at == NOT_THERE ? 0 : sizeBy(store.byteAt(at));
            if (size == 1) {
                store.putByte(at + 1, value);
            } else if (size == 2) {
                store.putWord(at + 1, value);
            } else {
                store.raise(10);
            }
        }

        private int propertyAddress(int object, int number) {
            int at = findProperty(object, number);
            return at == NOT_THERE ? 0 : at + 1;
        }

        private int propertyLength(int address) {
            return address == 0 ? 0 : sizeBy(store.byteAt(address - 1));
        }

        private int propertyBehind(int object, int number) {
            if (number == 0) {
                return store.byteAt(firstProperty(object)) & 31;
            }
            int at = findProperty(object, number);
            if (at == NOT_THERE) {
                store.raise(10);
                return 0;
            }
            return store.byteAt(at + 1 + sizeBy(store.byteAt(at))) & 31;
        }
    }

    /** Takes a line into MEMORY and parts it by DICTIONARY. */
    private static final class Reader {
        private static final int MOST_CODES = 8, MOST_LETTERS = 6, MOST_ENTRIES = 255;
        private static final int BLANK = 32, FILL = 5, THIRD = 5, CODE = 6;

        private final Store store;
        private final int[] codes;
        private final int[] letters;
        private int heard;
        private int spelled;
        private int place;
        private int most;
        private int told;

        private Reader(Store store) {
            this.store = store;
            codes = new int[MOST_CODES];
            letters = new int[MOST_LETTERS];
        }

        private void hear(int a, int b) {
            heard = 0;
            boolean ended = false;
            for (int i = 0; i < MOST_CODES && !ended; i++) {
                int number = i < 4 ? a : b;
                int code = (number >>> (24 - 8 * (i & 3))) & 255;
                ended = code == 0;
                if (!ended) {
                    codes[heard] = code >= 'A' && code <= 'Z' ? code + 32 : code;
                    heard++;
                }
            }
        }

        /** Lays what was heard at lineAt, tells its WORDS at wordsAt; answers how many. */
        private int part(int lineAt, int wordsAt) {
            layLine(lineAt);
            place = wordsAt + 2;
            most = store.byteAt(wordsAt);
            told = 0;
            int from = 0;
            // also behind the last WORD that may be told each code is held against SEPARATORS
            for (int i = 0; i < heard; i++) {
                boolean blank = codes[i] == BLANK;
                boolean itself = !blank && isSeparator(codes[i]);
                if (blank || itself) {
                    tellWord(from, i);
                    from = i + 1;
                }
                if (itself) {
                    tellWord(i, i + 1);
                }
            }
            tellWord(from, heard);
            store.putByte(wordsAt + 1, told);
            return told;
        }

        private void layLine(int lineAt) {
            heard = Math.min(heard, store.byteAt(lineAt));
            for (int i = 0; i < heard; i++) {
                store.putByte(lineAt + 1 + i, codes[i]);
            }
            store.putByte(lineAt + 1 + heard, 0);
        }

        private boolean isSeparator(int code) {
            int many = store.byteAt(store.dictionary);
            for (int i = 1; i <= many; i++) {
                if (store.byteAt(store.dictionary + i) == code && store.halt == 0) {
                    return true;
                }
            }
            return false;
        }

        private void tellWord(int from, int behind) {
            if (from == behind || told >= most) {
                return;
            }
            spell(from, behind);
            store.putWord(place, entryOf(spelledWord(0), spelledWord(3) | 32768));
            store.putByte(place + 2, behind - from);
            store.putByte(place + 3, from + 1);
            place += 4;
            told++;
        }

        private void spell(int from, int behind) {
            spelled = 0;
            for (int i = from; i < behind; i++) {
                int code = codes[i];
                int third = THIRD_ROW.indexOf((char) code);
                if (code >= 'a' && code <= 'z') {
                    addLetter(code - 'a' + 6);
                } else if (third >= 0) {
                    addLetter(THIRD);
                    addLetter(third + THIRD_ROW_FROM);
                } else {
                    addLetter(THIRD);
                    addLetter(CODE);
                    addLetter(code >> 5);
                    addLetter(code & 31);
                }
            }
            for (int i = spelled; i < MOST_LETTERS; i++) {
                letters[i] = FILL;
            }
        }

        private void addLetter(int letter) {
            if (spelled < MOST_LETTERS) {
                letters[spelled] = letter;
                spelled++;
            }
        }

        private int spelledWord(int from) {
            return letters[from] * 1024 + letters[from + 1] * 32 + letters[from + 2];
        }

        /** Where the entry of these two WORDS is, or 0. */
        private int entryOf(int first, int second) {
            int at = store.dictionary + 1 + store.byteAt(store.dictionary);
            int length = store.byteAt(at);
            int many = Math.min(store.wordAt(at + 1), MOST_ENTRIES);
            int entry = at + 3;
            for (int i = 0; i < many && store.halt == 0; i++) {
                // both WORDS of an entry are read, also where the first one is another: the second may be a HALT
                int firstThere = store.wordAt(entry);
                int secondThere = store.wordAt(entry + 2);
                if (firstThere == first && secondThere == second) {
                    return entry;
                }
                entry += length;
            }
            return 0;
        }
    }

    /** What one save() kept: the changes of MEMORY squeezed, THE STACK, FRAMES and PC. */
    private static final class Slot {
        private static final int MOST_MORE = 255;
        // a lone zero takes two bytes, and another byte stands behind it
        private static final int ROW_ROOM = TAPE_ROOM + TAPE_ROOM / 2;

        private final int[] row;
        private final Frames frames;
        private boolean used;
        private int size;
        private int pc;
        private int status;
        private int lineAt;
        private int wordsAt;

        private Slot() {
            row = new int[ROW_ROOM];
            frames = new Frames();
        }

        private void keep(Store store, Frames now, Engine engine) {
            squeeze(store);
            frames.copyFrom(now);
            pc = engine.pc;
            status = engine.status;
            lineAt = engine.lineAt;
            wordsAt = engine.wordsAt;
            used = true;
        }

        private void giveBack(Store store, Frames now, Engine engine) {
            expand(store);
            now.copyFrom(frames);
            store.halt = 0;
            engine.pc = pc;
            engine.status = status;
            engine.lineAt = lineAt;
            engine.wordsAt = wordsAt;
        }

        private static int changeAt(Store store, int i) {
            return store.bytes[i] ^ store.loaded[i];
        }

        private void squeeze(Store store) {
            size = 0;
            int end = store.mark;
            while (end > 0 && changeAt(store, end - 1) == 0) {
                end--;
            }
            int i = 0;
            while (i < end) {
                int change = changeAt(store, i);
                add(change);
                i++;
                if (change == 0) {
                    int from = i;
                    while (i < end && i - from < MOST_MORE && changeAt(store, i) == 0) {
                        i++;
                    }
                    add(i - from);
                }
            }
        }

        private void add(int number) {
            if (size < row.length) {
                row[size] = number;
                size++;
            }
        }

        private void expand(Store store) {
            store.renew();
            int at = 0;
            for (int i = 0; i < size && at < store.mark; i++) {
                if (row[i] != 0) {
                    store.bytes[at] = store.loaded[at] ^ row[i];
                } else if (i + 1 < size) {
                    i++;
                    at += row[i];
                }
                at++;
            }
        }
    }

    /** Runs ORDERS. */
    private static final class Engine {
        // what follows the work of an ORDER: its answer goes to s, it BRANCHES; or it is not told
        private static final int ANSWERS = 1, BRANCHES = 2, UNTOLD = 4;
        private static final int[] AFTER_TWO = {
            4, 2, 2, 2, 2, 2, 2, 2, 1, 1, 2, 0, 0, 0, 0, 1, 1, 1, 1, 1, 1, 1, 1, 1, 1, 4, 4, 4, 4, 4, 4, 4
        };
        private static final int[] AFTER_ONE = {2, 3, 3, 1, 1, 0, 0, 0, 4, 0, 0, 0, 0, 0, 1, 1};
        private static final int[] AFTER_NONE = {0, 0, 0, 0, 0, 4, 4, 0, 0, 0, 0, 0, 4, 2, 4, 4};
        private static final int[] AFTER_VAR = {0, 0, 0, 0, 0, 0, 0, 1, 0, 0};
        private static final int[] NEEDED_BY_VAR = {1, 3, 3, 3, 2, 1, 1, 1, 1, 1};
        private static final int MOST_OPERANDS = 4;

        private final Store store;
        private final Frames frames;
        private final Variables variables;
        private final Forest forest;
        private final Teller teller;
        private final Codes output;
        private final int[] operands;
        private int given;
        private int pc;
        private int next;
        private int status;
        private int begun;
        private int draw;
        private int lineAt;
        private int wordsAt;
        private int value;
        private boolean holds;

        private Engine(Store store, Frames frames, Codes output, Teller teller) {
            this.store = store;
            this.frames = frames;
            this.output = output;
            this.teller = teller;
            variables = new Variables(store, frames);
            forest = new Forest(store);
            operands = new int[MOST_OPERANDS];
            status = NO_STORY;
        }

        private void begin() {
            rewind();
            pc = next;
            output.clear();
            store.halt = 0;
            begun = 0;
            draw = 1;
            status = GOES;
        }

        private void rewind() {
            store.renew();
            frames.clear();
            next = store.firstPc;
        }

        private void obey() {
            begun++;
            next = pc;
            int order = fetch();
            readOperands(order);
            int after = afterOf(order);
            if (after == UNTOLD) {
                store.raise(6);
            }
            if (store.halt == 0) {
                if (order >= 224) {
                    performVar(order & 31);
                } else if (given == 0) {
                    performNone(order & 15);
                } else if (given == 1) {
                    performOne(order & 15, operands[0]);
                } else if ((after & ANSWERS) != 0) {
                    value = answerOfTwo(order & 31, operands[0], operands[1]) & WORD_MASK;
                } else {
                    performTwo(order & 31, operands[0], operands[1]);
                }
            }
            if ((after & ANSWERS) != 0) {
                answer();
            }
            if ((after & BRANCHES) != 0) {
                branch();
            }
            if (store.halt == 0) {
                pc = next;
            } else {
                status = HALTED;
            }
        }

        private int fetch() {
            int code = store.byteAt(next);
            next = (next + 1) & WORD_MASK;
            return code;
        }

        private void readOperands(int order) {
            given = 0;
            int types;
            if (order >= 192) {
                types = fetch();
            } else if (order >= 128) {
                types = ((order & 48) << 2) | 63;
            } else {
                int first = (order & 64) != 0 ? 2 : 1;
                int second = (order & 32) != 0 ? 2 : 1;
                types = (first << 6) | (second << 4) | 15;
            }
            boolean more = true;
            for (int i = 0; i < MOST_OPERANDS && more; i++) {
                int type = (types >> (6 - 2 * i)) & 3;
                more = type != 3;
                if (more) {
                    operands[given] = operandOf(type);
                    given++;
                }
            }
        }

        private int operandOf(int type) {
            int first = fetch();
            if (type == 1 || store.halt != 0) {
                return first;
            }
            return type == 0 ? first * 256 + fetch() : variables.valueOf(first);
        }

        private int afterOf(int order) {
            if (order >= 224) {
                int op = order & 31;
                boolean told = op < AFTER_VAR.length && given >= NEEDED_BY_VAR[op];
                return told ? AFTER_VAR[op] : UNTOLD;
            }
            if (order >= 192 || order < 128) {
                return given >= 2 ? AFTER_TWO[order & 31] : UNTOLD;
            }
            return given == 0 ? AFTER_NONE[order & 15] : AFTER_ONE[order & 15];
        }

        private void answer() {
            int variable = fetch();
            if (store.halt == 0) {
                variables.assign(variable, value);
            }
        }

        private void branch() {
            int form = fetch();
            int offset = form & 63;
            if ((form & 64) == 0) {
                offset = offset * 256 + fetch();
                offset = offset >= 8192 ? offset - 16384 : offset;
            }
            boolean wanted = (form & 128) != 0;
            if (store.halt == 0 && wanted == holds) {
                moveBy(offset);
            }
        }

        private void moveBy(int offset) {
            if (offset == 0 || offset == 1) {
                giveBack(offset);
            } else {
                next = (next + offset - 2) & WORD_MASK;
            }
        }

        private void giveBack(int result) {
            if (frames.depth < 2) {
                store.raise(4);
            }
            if (store.halt != 0) {
                return;
            }
            int variable = frames.answers[frames.depth - 1];
            next = frames.backs[frames.depth - 1];
            frames.leave();
            variables.assign(variable, result);
        }

        private void performTwo(int op, int a, int b) {
            switch (op) {
                case 1:
                    holds = isAnyOfTheOthers();
                    break;
                case 2:
                    holds = signed(a) < signed(b);
                    break;
                case 3:
                    holds = signed(a) > signed(b);
                    break;
                case 4:
                    holds = signed(variables.stepNamed(a, -1)) < signed(b);
                    break;
                case 5:
                    holds = signed(variables.stepNamed(a, 1)) > signed(b);
                    break;
                case 6:
                    holds = forest.linkOf(a, Forest.PARENT) == b;
                    break;
                case 7:
                    holds = (a & b) == b;
                    break;
                case 10:
                    holds = forest.hasAttribute(a, b);
                    break;
                case 11:
                    forest.setAttribute(a, b, true);
                    break;
                case 12:
                    forest.setAttribute(a, b, false);
                    break;
                case 13:
                    variables.assignNamed(a, b);
                    break;
                default:
                    forest.insert(a, b);
                    break;
            }
        }

        private boolean isAnyOfTheOthers() {
            for (int i = 1; i < given; i++) {
                if (operands[i] == operands[0]) {
                    return true;
                }
            }
            return false;
        }

        private int answerOfTwo(int op, int a, int b) {
            switch (op) {
                case 8:
                    return a | b;
                case 9:
                    return a & b;
                case 15:
                    return store.wordAt(a + 2 * b);
                case 16:
                    return store.byteAt(a + b);
                case 17:
                    return forest.propertyOf(a, b);
                case 18:
                    return forest.propertyAddress(a, b);
                case 19:
                    return forest.propertyBehind(a, b);
                case 20:
                    return a + b;
                case 21:
                    return a - b;
                case 22:
                    return a * b;
                default:
                    return divided(op, signed(a), signed(b));
            }
        }

        private int divided(int op, int a, int b) {
            if (b == 0) {
                store.raise(7);
                return 0;
            }
            return op == 23 ? a / b : a % b;
        }

        private void performOne(int op, int a) {
            switch (op) {
                case 0:
                    holds = a == 0;
                    break;
                case 1:
                    value = forest.linkOf(a, Forest.SIBLING);
                    holds = value != 0;
                    break;
                case 2:
                    value = forest.linkOf(a, Forest.CHILD);
                    holds = value != 0;
                    break;
                case 3:
                    value = forest.linkOf(a, Forest.PARENT);
                    break;
                case 4:
                    value = forest.propertyLength(a);
                    break;
                case 5:
                    variables.stepNamed(a, 1);
                    break;
                case 6:
                    variables.stepNamed(a, -1);
                    break;
                case 7:
                    teller.tell(a, output);
                    break;
                case 9:
                    forest.remove(a);
                    break;
                case 10:
                    teller.tell(forest.nameOf(a) + 1, output);
                    break;
                case 11:
                    giveBack(a);
                    break;
                case 12:
                    moveBy(signed(a));
                    break;
                case 13:
                    teller.tell(2 * a, output);
                    break;
                case 14:
                    value = variables.namedValue(a);
                    break;
                default:
                    value = ~a & WORD_MASK;
                    break;
            }
        }

        private void performNone(int op) {
            switch (op) {
                case 0:
                    giveBack(1);
                    break;
                case 1:
                    giveBack(0);
                    break;
                case 2:
                    next = teller.tell(next, output);
                    break;
                case 3:
                    next = teller.tell(next, output);
                    newLine();
                    giveBack(1);
                    break;
                case 7:
                    rewind();
                    break;
                case 8:
                    giveBack(variables.pop());
                    break;
                case 9:
                    variables.pop();
                    break;
                case 10:
                    status = ENDED;
                    break;
                case 11:
                    newLine();
                    break;
                default:
                    // nothing (4), and verify (13), which always is so
                    holds = true;
                    break;
            }
        }

        private void newLine() {
            if (store.halt == 0) {
                output.add(Codes.NEW_LINE);
            }
        }

        private void performVar(int op) {
            int a = operands[0];
            switch (op) {
                case 0:
                    call(a);
                    break;
                case 1:
                    store.putWord(a + 2 * operands[1], operands[2]);
                    break;
                case 2:
                    store.putByte(a + operands[1], operands[2]);
                    break;
                case 3:
                    forest.setProperty(a, operands[1], operands[2]);
                    break;
                case 4:
                    lineAt = a;
                    wordsAt = operands[1];
                    status = WAITS;
                    break;
                case 5:
                    output.add(a);
                    break;
                case 6:
                    output.addNumber(signed(a));
                    break;
                case 7:
                    value = drawn(signed(a));
                    break;
                case 8:
                    variables.push(a);
                    break;
                default:
                    variables.assignNamed(a, variables.pop());
                    break;
            }
        }

        private void call(int routine) {
            int variable = fetch();
            if (store.halt != 0) {
                return;
            }
            if (routine == 0) {
                variables.assign(variable, 0);
                return;
            }
            int at = 2 * routine;
            int many = store.byteAt(at);
            if (many > Frames.MOST_LOCALS) {
                store.raise(8);
            } else if (frames.isFull()) {
                store.raise(3);
            }
            for (int i = 1; i <= many && store.halt == 0; i++) {
                frames.prepareLocal(i, i < given ? operands[i] : store.wordAt(at + 2 * i - 1));
            }
            if (store.halt == 0) {
                frames.enter(many, variable, next);
                next = (at + 1 + 2 * many) & WORD_MASK;
            }
        }

        private int drawn(int range) {
            if (range > 0) {
                draw = 1103515245 * draw + 12345;
                return ((draw >>> 16) & 32767) % range + 1;
            }
            if (range < 0) {
                draw = -range;
            }
            return 0;
        }
    }
}
