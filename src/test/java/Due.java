/** Compares answers with those that are due, and tells the ones that are not. */
final class Due {
    private int looked = 0;
    private int wrong = 0;
    private String where = "";

    /** What the next answers belong to, told ahead of those that are wrong. */
    void within(String what) {
        where = what.isEmpty() ? "" : what + ": ";
    }

    void due(String call, long got, long want) {
        looked++;
        if (got != want) {
            wrong++;
            if (wrong <= 40) {
                System.out.println(where + call + " answered " + got + ", due is " + want);
            }
        }
    }

    void holds(String what, boolean so) {
        due(what, so ? 1 : 0, 1);
    }

    int looked() {
        return looked;
    }

    /** Ends the program, with 1 if an answer was wrong. */
    void end() {
        System.out.println(looked + " answers looked at, " + wrong + " not as due");
        System.exit(wrong == 0 ? 0 : 1);
    }
}
