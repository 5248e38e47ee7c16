/** Counts the answers that are not the ones that are due, and prints each. */
final class Check {
    private int wrong = 0;
    private int made = 0;

    void same(String what, int got, int want) {
        made++;
        if (got != want) {
            wrong++;
            System.out.println(what + ": answered " + got + ", due is " + want);
        }
    }

    void yes(String what, boolean got) {
        same(what, got ? 1 : 0, 1);
    }

    void no(String what, boolean got) {
        same(what, got ? 1 : 0, 0);
    }

    /** Ends the program with exit code 1 if an answer was wrong. */
    void end() {
        System.out.println(made + " answers, " + wrong + " wrong");
        if (wrong != 0) {
            System.exit(1);
        }
    }
}
