/** OBJECTS: ATTRIBUTES, the forest, PROPERTIES. */
public final class ObjectsTest {
    private static final Check CHECK = new Check();
    private static final int CODE = Story.CODE;
    private static final int NAME_1 = Story.NAMES, NAME_2 = Story.NAMES + 20, NAME_3 = Story.NAMES + 40;

    public static void main(String[] args) {
        attributes();
        relatives();
        removing();
        inserting();
        getProp();
        putProp();
        propertyPlaces();
        names();
        CHECK.finish();
    }

    /** OBJECT 1 holds 2, 3 and 4, in this order; 5 is alone. */
    private static Story forest(int... code) {
        return new Story(code)
                .object(1, 0, 0, 2, NAME_1)
                .object(2, 1, 3, 0, NAME_2)
                .object(3, 1, 4, 0, NAME_3)
                .object(4, 1, 0, 0, NAME_1)
                .object(5, 0, 0, 0, NAME_1)
                .at(NAME_1, Story.join(Story.code(1), Story.spell("box"), Story.code(0x3F, 1, 0xF4, 0x03, 7, 0)))
                .at(NAME_2, Story.join(Story.code(2), Story.spell("lamp"), Story.code(0x45, 1, 2, 3, 0x25, 9, 9, 32)))
                .at(NAME_3, Story.join(Story.code(1), Story.spell("cat"), Story.code(0)))
                .word(Story.OBJECTS, 111).word(Story.OBJECTS + 60, 131).word(Story.OBJECTS + 16, 909);
    }

    private static int place(int o) {
        return Story.FIRST_OBJECT + 9 * (o - 1);
    }

    private static boolean goes(Story story) {
        TaleMachine x = story.run(1);
        return x.count(4) == CODE + 7;
    }

    private static void so(String what, boolean got, boolean want) {
        CHECK.due(what, got ? 1 : 0, want ? 1 : 0);
    }

    private static void attributes() {
        TaleMachine x = forest(0x0B, 1, 0, 0x0B, 1, 7, 0x0B, 1, 8, 0x0B, 1, 31, 0x0C, 1, 7, 0x0C, 1, 9).run(4);
        CHECK.due("ATTRIBUTES 0 and 7", x.peek(place(1)), 0x81);
        CHECK.due("ATTRIBUTE 8", x.peek(place(1) + 1), 0x80);
        CHECK.due("ATTRIBUTE 31", x.peek(place(1) + 3), 1);
        x.run(2);
        CHECK.due("7 cleared", x.peek(place(1)), 0x80);
        CHECK.due("9 was not set", x.peek(place(1) + 1), 0x80);
        so("test_attr", goes(forest(0x0A, 2, 9, 0xC5).at(place(2) + 1, 0x40)), true);
        so("test_attr not", goes(forest(0x0A, 2, 10, 0xC5).at(place(2) + 1, 0x40)), false);
        so("test_attr 0 not", goes(forest(0x0A, 2, 0, 0xC5).at(place(2), 0x7F)), false);
        for (int op = 10; op <= 12; op++) {
            CHECK.halted("ATTRIBUTE 32, OP " + op, forest(op, 1, 32, 0xC5).run(1), 9, CODE);
            CHECK.halted("OBJECT 0, OP " + op, forest(op, 0, 1, 0xC5).run(1), 9, CODE);
            CHECK.halted("OBJECT 256, OP " + op, forest(0xC0 | op, 0x1F, 1, 0, 1, 0xC5).run(1), 9, CODE);
        }
        CHECK.halted("OBJECT 255 is out of MEMORY", forest(10, 255, 1, 0xC5).run(1), 1, CODE);
        CHECK.halted("an OBJECT above THE MARK", forest(11, 40, 1).run(1), 2, CODE);
    }

    private static void relatives() {
        TaleMachine x = forest(0x91, 2, 0, 0xC5).run(1);
        CHECK.due("get_sibling", x.word(0, false), 3);
        CHECK.due("so", x.count(4), CODE + 7);
        TaleMachine y = forest(0x91, 4, 0, 0xC5).run(1);
        CHECK.due("no sibling", y.word(0, false), 0);
        CHECK.due("not so", y.count(4), CODE + 4);
        TaleMachine z = forest(0x92, 1, 0, 0xC5).run(1);
        CHECK.due("get_child", z.word(0, false), 2);
        CHECK.due("so", z.count(4), CODE + 7);
        CHECK.due("no child", forest(0x92, 2, 0, 0xC5).run(1).count(4), CODE + 4);
        CHECK.due("get_parent", forest(0x93, 3, 0).run(1).word(0, false), 1);
        CHECK.due("no parent", forest(0x93, 1, 0).run(1).word(0, false), 0);
        for (int op = 1; op <= 3; op++) {
            CHECK.halted("of OBJECT 0, OP " + op, forest(0x90 | op, 0, 0, 0xC5).run(1), 9, CODE);
            CHECK.halted("of OBJECT 256, OP " + op, forest(0x80 | op, 1, 0, 0, 0xC5).run(1), 9, CODE);
        }
        so("jin", goes(forest(0x06, 3, 1, 0xC5)), true);
        so("jin not", goes(forest(0x06, 3, 2, 0xC5)), false);
        so("jin 0", goes(forest(0x06, 1, 0, 0xC5)), true);
        CHECK.due("jin of b 300", forest(0xC6, 0x4F, 3, 1, 44, 0xC5).run(1).state(), 1);
        CHECK.halted("jin of OBJECT 0", forest(0x06, 0, 1, 0xC5).run(1), 9, CODE);
    }

    /** parent, sibling, child as one number. */
    private static int links(TaleMachine x, int o) {
        return x.peek(place(o) + 4) * 10000 + x.peek(place(o) + 5) * 100 + x.peek(place(o) + 6);
    }

    private static void removing() {
        TaleMachine x = forest(0x99, 2).run(1);
        CHECK.due("the first child: the parent", links(x, 1), 3);
        CHECK.due("the first child: itself", links(x, 2), 0);
        CHECK.due("PC behind remove_obj", x.count(4), CODE + 2);
        CHECK.due("the first child: the next one", links(x, 3), 10400);
        TaleMachine y = forest(0x99, 3).run(1);
        CHECK.due("one between: the parent", links(y, 1), 2);
        CHECK.due("one between: the one ahead", links(y, 2), 10400);
        CHECK.due("one between: itself", links(y, 3), 0);
        TaleMachine z = forest(0x99, 4).run(1);
        CHECK.due("the last: the one ahead", links(z, 3), 10000);
        TaleMachine w = forest(0x99, 5).object(5, 0, 9, 2, NAME_1).run(1);
        CHECK.due("without a parent", links(w, 5), 2);
        TaleMachine k = forest(0x99, 2).object(2, 1, 3, 5, NAME_2).run(1);
        CHECK.due("its own child stays", links(k, 2), 5);
        CHECK.halted("OBJECT 0", forest(0x99, 0).run(1), 9, CODE);
        TaleMachine v = forest(0x99, 5).object(5, 1, 7, 0, NAME_1).run(1);
        CHECK.halted("not among the children", v, 11, CODE);
        CHECK.due("its parent stays", links(v, 5), 10700);
        TaleMachine u = forest(0x99, 5).object(5, 1, 0, 0, NAME_1).object(4, 1, 2, 0, NAME_1).run(1);
        CHECK.halted("children in a ring", u, 11, CODE);
        TaleMachine t = forest(0x99, 5).object(5, 2, 0, 0, NAME_1).run(1);
        CHECK.halted("a parent without a child", t, 11, CODE);
        TaleMachine s = forest(0x99, 4).word(14, place(3) + 9).word(4, Story.MARK).run(1);
        CHECK.halted("an OBJECT that can't be written", s, 2, CODE);
        CHECK.due("the one ahead has been written", links(s, 3), 10000);
    }

    private static void inserting() {
        TaleMachine x = forest(0x0E, 3, 5).run(1);
        CHECK.due("the old parent", links(x, 1), 2);
        CHECK.due("the one ahead", links(x, 2), 10400);
        CHECK.due("itself", links(x, 3), 50000);
        CHECK.due("the new parent", links(x, 5), 3);
        TaleMachine y = forest(0x0E, 5, 1).run(1);
        CHECK.due("ahead of the children", links(y, 1), 5);
        CHECK.due("the first child is its sibling", links(y, 5), 10200);
        TaleMachine z = forest(0x0E, 4, 1).run(1);
        CHECK.due("into its own parent", links(z, 4), 10200);
        CHECK.due("as the first", links(z, 1), 4);
        CHECK.due("the last no more", links(z, 3), 10000);
        TaleMachine w = forest(0x0E, 5, 5).run(1);
        CHECK.due("into itself", links(w, 5), 50005);
        TaleMachine v = forest(0x0E, 3, 0).run(1);
        CHECK.halted("into OBJECT 0", v, 9, CODE);
        CHECK.due("both are asked first", links(v, 3), 10400);
        CHECK.halted("OBJECT 0", forest(0x0E, 0, 3).run(1), 9, CODE);
    }

    private static int gets(int op, int o, int number) {
        TaleMachine x = forest(op, o, number, 0).run(1);
        return x.state() == 4 ? -10 - x.count(5) : x.word(0, false);
    }

    private static void getProp() {
        CHECK.due("a WORD", gets(17, 1, 31), 500);
        CHECK.due("a byte", gets(17, 1, 3), 7);
        CHECK.due("three bytes, the first with number 5", gets(17, 2, 5), -20);
        CHECK.due("number 1 of the 31", gets(17, 1, 1), 111);
        CHECK.due("number 9 of the 31", gets(17, 3, 9), 909);
        CHECK.due("number 31 of the 31", gets(17, 2, 31), 131);
        CHECK.due("number 0", gets(17, 1, 0), -20);
        CHECK.due("number 32", gets(17, 1, 32), -20);
        CHECK.due("OBJECT 0", gets(17, 0, 1), -19);
        TaleMachine x = forest(17, 1, 3, 0).object(1, 0, 0, 0, 1020).at(1020, 0, 0x24, 0, 0).run(1);
        CHECK.halted("PROPERTIES out of MEMORY", x, 1, CODE);
        CHECK.halted("the name out of MEMORY", forest(17, 1, 3, 0).object(1, 0, 0, 0, 5000).run(1), 1, CODE);
    }

    private static void putProp() {
        TaleMachine x = forest(0xE3, 0x53, 1, 31, 0x12, 0x34).run(1);
        CHECK.due("PC behind put_prop", x.count(4), CODE + 6);
        CHECK.due("a WORD, high", x.peek(NAME_1 + 4), 0x12);
        CHECK.due("a WORD, low", x.peek(NAME_1 + 5), 0x34);
        TaleMachine y = forest(0xE3, 0x53, 1, 3, 0x12, 0x34).run(1);
        CHECK.due("a byte", y.peek(NAME_1 + 7), 0x34);
        CHECK.due("the end stays", y.peek(NAME_1 + 8), 0);
        CHECK.halted("three bytes", forest(0xE3, 0x57, 2, 5, 1).run(1), 10, CODE);
        CHECK.halted("none such", forest(0xE3, 0x57, 1, 4, 1).run(1), 10, CODE);
        CHECK.halted("number 0", forest(0xE3, 0x57, 1, 0, 1).run(1), 10, CODE);
        CHECK.halted("OBJECT 0", forest(0xE3, 0x57, 0, 3, 1).run(1), 9, CODE);
        CHECK.halted("PROPERTIES above THE MARK",
                forest(0xE3, 0x57, 1, 3, 1).word(14, NAME_1 + 7).run(1), 2, CODE);
    }

    private static void propertyPlaces() {
        CHECK.due("get_prop_addr", gets(18, 1, 31), NAME_1 + 4);
        CHECK.due("get_prop_addr of the first", gets(18, 2, 5), NAME_2 + 6);
        CHECK.due("get_prop_addr of none", gets(18, 1, 4), 0);
        CHECK.due("get_prop_addr of number 0", gets(18, 1, 0), 0);
        CHECK.due("get_prop_addr of OBJECT 0", gets(18, 0, 1), -19);
        CHECK.due("get_prop_len 0", forest(0x94, 0, 0).run(1).word(0, false), 0);
        CHECK.due("get_prop_len 2", forest(0x94, NAME_1 + 4, 0).run(1).word(0, false), 2);
        CHECK.due("get_prop_len 1", forest(0x94, NAME_1 + 7, 0).run(1).word(0, false), 1);
        CHECK.due("get_prop_len 3", forest(0x94, NAME_2 + 6, 0).run(1).word(0, false), 3);
        CHECK.due("get_prop_len at L", forest(0x84, 4, 0, 0).at(1023, 0xE1).run(1).word(0, false), 8);
        CHECK.halted("get_prop_len behind L", forest(0x84, 4, 1, 0).run(1), 1, CODE);
        CHECK.due("get_next_prop 0", gets(19, 1, 0), 31);
        CHECK.due("get_next_prop 31", gets(19, 1, 31), 3);
        CHECK.due("get_next_prop at the end", gets(19, 1, 3), 0);
        CHECK.due("get_next_prop behind the first 5", gets(19, 2, 5), 5);
        CHECK.due("get_next_prop of none", gets(19, 3, 0), 0);
        CHECK.due("get_next_prop of none such", gets(19, 3, 3), -20);
        CHECK.due("get_next_prop of OBJECT 0", gets(19, 0, 0), -19);
    }

    private static void names() {
        CHECK.told("print_obj", forest(0x9A, 2, 0x9A, 3).run(2), "lampcat");
        CHECK.halted("print_obj 0", forest(0x9A, 0).run(1), 9, CODE);
    }
}
