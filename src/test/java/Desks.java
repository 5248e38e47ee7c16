/** Desks in states that many tests begin with. */
final class Desks {
    private Desks() {
    }

    /** Class 0 is loaded, as draftCounter writes it. */
    static HotEditions withCounter() {
        HotEditions desk = new HotEditions();
        draftCounter(desk, 0);
        desk.load();
        return desk;
    }

    /** Method 10 adds 5, calls method 11 and adds 7; method 11 adds 100. */
    static void draftCounter(HotEditions desk, int name) {
        desk.blank();
        desk.set(1, name);
        desk.implement(4);
        desk.implement(5);
        desk.field(1, 2, 3);
        desk.field(2, 2, 0);
        desk.method(10, 1);
        desk.code(0, 5, 0);
        desk.code(1, name, 11);
        desk.code(0, 7, 0);
        desk.method(11, 0);
        desk.code(0, 100, 0);
    }

    /** Every list is full; each of the methods 10 to 13 adds 1, 2, 4, 8, 16 and 32. */
    static void draftFull(HotEditions desk, int name, int lastInterface) {
        desk.blank();
        desk.set(1, name);
        desk.implement(1);
        desk.implement(2);
        desk.implement(lastInterface);
        for (int i = 0; i < 4; i++) {
            desk.field(i, i, i);
        }
        for (int m = 10; m < 14; m++) {
            desk.method(m, m);
            for (int i = 0; i < 6; i++) {
                desk.code(0, 1 << i, 0);
            }
        }
    }

    /** A class with one method, 10, that adds a number. */
    static int loadPlain(HotEditions desk, int name, int above, int number) {
        desk.blank();
        desk.set(1, name);
        desk.set(2, above);
        desk.method(10, 0);
        desk.code(0, number, 0);
        return desk.load();
    }

    /** Puts an edition of a class that loadPlain made into the batch. */
    static boolean queuePlain(HotEditions desk, int name, int number) {
        desk.copy(name);
        desk.choose(0);
        desk.code(0, number, 0);
        return desk.queue(name);
    }

    /** What a method comes to, on thread t, which is idle. */
    static int run(HotEditions desk, int t, int c, int m) {
        if (!desk.start(t, c, m)) {
            return Integer.MIN_VALUE;
        }
        desk.step(t, 100);
        return desk.result(t);
    }

    /** What the draft answers when it is swapped in for class c. */
    static int swapDraft(HotEditions desk, int c) {
        desk.queue(c);
        return desk.swap();
    }
}
