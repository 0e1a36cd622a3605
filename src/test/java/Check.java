/** Counts the answers that are not as due. */
final class Check {
    private int asked = 0;
    private int wrong = 0;
    private String sentence = "";

    /** The sentence of the document that the answers asked from now on are due by. */
    void says(String words) {
        sentence = "[" + words + "] ";
    }

    void due(String what, long got, long want) {
        asked++;
        if (got != want) {
            wrong++;
            System.out.println(sentence + what + " answered " + got + ", due is " + want);
        }
    }

    /** The codes that THE OUTPUT tells, as a text. */
    void told(String what, TaleMachine machine, String want) {
        StringBuilder got = new StringBuilder();
        for (int i = 0; machine.out(i) != TaleMachine.BAD; i++) {
            got.append((char) machine.out(i));
        }
        asked++;
        if (!got.toString().equals(want)) {
            wrong++;
            System.out.println(sentence + what + " told '" + got + "', due is '" + want + "'");
        }
    }

    /** A machine that has come to a HALT there, in the ORDER at that PC. */
    void halted(String what, TaleMachine machine, int halt, int pc) {
        due(what + ": the state", machine.state(), 4);
        due(what + ": the HALT", machine.count(5), halt);
        due(what + ": PC", machine.count(4), pc);
    }

    void so(String what, boolean got, boolean want) {
        due(what, got ? 1 : 0, want ? 1 : 0);
    }

    void finish() {
        System.out.println(asked + " answers asked, " + wrong + " not as due");
        if (wrong != 0 || asked == 0) {
            System.exit(1);
        }
    }
}
