/** Desks in states that many tests begin with, and short runs of calls that many tests make. */
final class Desks {
    /** Numbers that no list of the document reaches. */
    private static final int[] FAR = {Integer.MIN_VALUE, Integer.MAX_VALUE};

    private Desks() {
    }

    static int[] far() {
        return FAR.clone();
    }

    /** Class 0 is loaded, as draftCounter writes it. */
    static HotEditions withCounter() {
        HotEditions desk = new HotEditions();
        draftCounter(desk, 0);
        desk.load();
        return desk;
    }

    /** The first classes are loaded; method 10 of class c adds c. */
    static HotEditions withPlain(int count) {
        HotEditions desk = new HotEditions();
        for (int c = 0; c < count; c++) {
            loadPlain(desk, c, HotEditions.NONE, c);
        }
        return desk;
    }

    /** Class 0 is loaded, with every list full. */
    static HotEditions withFull() {
        HotEditions desk = new HotEditions();
        draftFull(desk, 0, 3);
        desk.load();
        return desk;
    }

    /** Class 0 has a method, 30, that calls itself, adds 1 and calls itself again. */
    static HotEditions withDeep() {
        HotEditions desk = new HotEditions();
        desk.method(30, 0);
        desk.code(1, 0, 30);
        desk.code(0, 1, 0);
        desk.code(1, 0, 30);
        desk.load();
        return desk;
    }

    /**
     * Classes 0 to 3 are loaded, 1 waits in the batch, numbers 1 and 2 have transformers, thread 0
     * runs an old edition with two frames, thread 1 is idle with a result, thread 2 has begun.
     */
    static HotEditions busy() {
        HotEditions desk = withCounter();
        loadPlain(desk, 1, 0, 1);
        loadPlain(desk, 2, HotEditions.NONE, 2);
        loadPlain(desk, 3, HotEditions.NONE, 3);
        desk.transformer(0, 0, HotEditions.NONE, false);
        desk.transformer(1, 100, 3, true);
        desk.transformer(1, 1000, 5, false);
        desk.remove(0);
        run(desk, 1, 0, 11);
        desk.start(0, 0, 10);
        desk.step(0, 2);
        desk.repeat(0);
        desk.start(2, 3, 10);
        queuePlain(desk, 1, 11);
        draftBusy(desk);
        return desk;
    }

    /** A definition of class 5 without a part that is as in a blank one; a method is chosen. */
    static void draftBusy(HotEditions desk) {
        draftCounter(desk, 5);
        desk.set(0, 8);
        desk.set(2, 0);
        desk.set(3, 33);
        desk.set(4, 44);
    }

    /** Method 10 adds 5, calls method 11 and adds 7; method 11 adds 100. */
    static void draftCounter(HotEditions desk, int name) {
        desk.blank();
        desk.set(1, name);
        desk.implement(4);
        desk.implement(5);
        desk.field(1, 2, 3);
        desk.field(2, 2, 0);
        desk.method(10, 1);
        desk.code(0, 5, 0);
        desk.code(1, name, 11);
        desk.code(0, 7, 0);
        desk.method(11, 0);
        desk.code(0, 100, 0);
    }

    /** Every list is full; each of the methods 10 to 13 adds 1, 2, 4, 8, 16 and 32. */
    static void draftFull(HotEditions desk, int name, int lastInterface) {
        desk.blank();
        desk.set(1, name);
        desk.implement(1);
        desk.implement(2);
        desk.implement(lastInterface);
        for (int i = 0; i < 4; i++) {
            desk.field(i, i, i);
        }
        for (int m = 10; m < 14; m++) {
            desk.method(m, m);
            for (int i = 0; i < 6; i++) {
                desk.code(0, 1 << i, 0);
            }
        }
    }

    /** A class with one method, 10, that adds a number. */
    static int loadPlain(HotEditions desk, int name, int above, int number) {
        desk.blank();
        desk.set(1, name);
        desk.set(2, above);
        desk.method(10, 0);
        desk.code(0, number, 0);
        return desk.load();
    }

    /** Puts an edition of a class that loadPlain made into the batch. */
    static boolean queuePlain(HotEditions desk, int name, int number) {
        desk.copy(name);
        desk.choose(0);
        desk.code(0, number, 0);
        return desk.queue(name);
    }

    /** What a method comes to, on thread t, which is idle. */
    static int run(HotEditions desk, int t, int c, int m) {
        if (!desk.start(t, c, m)) {
            return Integer.MIN_VALUE;
        }
        finish(desk, t);
        return desk.result(t);
    }

    /** Steps a thread until it is idle: how many steps. No run of a test needs more than 400. */
    static int finish(HotEditions desk, int t) {
        int all = 0;
        for (int i = 0; i < 4 && desk.frame(t, 0) != HotEditions.NONE; i++) {
            all += desk.step(t, 100);
        }
        return all;
    }

    /** What the draft answers when it is swapped in for class c. */
    static int swapDraft(HotEditions desk, int c) {
        desk.queue(c);
        return desk.swap();
    }

    static int interfacesThatFit(HotEditions desk) {
        int fit = 0;
        while (fit < 10 && desk.implement(1000 + fit)) {
            fit++;
        }
        return fit;
    }

    static int fieldsThatFit(HotEditions desk) {
        int fit = 0;
        while (fit < 10 && desk.field(1000 + fit, 0, 0)) {
            fit++;
        }
        return fit;
    }

    static int methodsThatFit(HotEditions desk) {
        int fit = 0;
        while (fit < 10 && desk.method(1000 + fit, 0)) {
            fit++;
        }
        return fit;
    }

    static int instructionsThatFit(HotEditions desk) {
        int fit = 0;
        while (fit < 10 && desk.code(0, 0, 0)) {
            fit++;
        }
        return fit;
    }
}
