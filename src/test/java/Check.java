/** Holds the answers of one test to those that are due, and prints each that is not. */
final class Check {
    private final String test;
    private int made = 0;
    private int wrong = 0;

    Check(String test) {
        this.test = test;
    }

    void same(String what, Object got, Object want) {
        made++;
        if (!got.equals(want)) {
            wrong(what + " answered " + got + ", due is " + want);
        }
    }

    void yes(String what, boolean got) {
        same(what, got, true);
    }

    void no(String what, boolean got) {
        same(what, got, false);
    }

    void none(String what, int got) {
        same(what, got, HotEditions.NONE);
    }

    void wrong(String what) {
        wrong++;
        System.out.println(test + ": " + what);
    }

    int answersMade() {
        return made;
    }

    int answersWrong() {
        return wrong;
    }
}
