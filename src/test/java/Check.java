/** Counts and prints the answers that are not the ones that are due. */
final class Check {
    private static final int PRINTED_AT_MOST = 40;

    private final String name;
    private int answers = 0;
    private int wrong = 0;

    Check(String name) {
        this.name = name;
    }

    void due(String call, long got, long want) {
        answers++;
        if (got != want) {
            wrong++;
            if (wrong <= PRINTED_AT_MOST) {
                System.out.println(name + ": " + call + " answered " + got + ", due is " + want);
            }
        }
    }

    void holds(String what, boolean so) {
        due(what, so ? 1 : 0, 1);
    }

    void same(String what, String got, String want) {
        holds(what + ": " + got + ", due is " + want, got.equals(want));
    }

    int wrong() {
        return wrong;
    }

    /** Ends the program, with exit code 1 if an answer was wrong. */
    void end() {
        System.out.println(name + ": " + answers + " answers, " + wrong + " not as due");
        System.exit(wrong == 0 && answers > 0 ? 0 : 1);
    }
}
