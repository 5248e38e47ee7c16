/** Promises 16 to 21: start, step, frame, result, edition, kept. */
final class CallTest {
    private static final Check CHECK = new Check();

    public static void main(String[] args) {
        startRefused();
        stepCounts();
        stepRefused();
        sumsGoUp();
        sumsWrap();
        fiveFrames();
        frames();
        results();
        newCallsSeeNewCode();
        editions();
        keptEditions();
        keptOfEachClass();
        keptOnceAThread();
        CHECK.end();
    }

    private static void startRefused() {
        HotEditions desk = Desks.withCounter();
        CHECK.no("16 no thread -1", desk.start(-1, 0, 10));
        CHECK.no("16 no thread 3", desk.start(3, 0, 10));
        CHECK.no("16 no thread", desk.start(Integer.MIN_VALUE, 0, 10));
        CHECK.no("16 class is not loaded", desk.start(0, 1, 10));
        CHECK.no("16 no class 6", desk.start(0, 6, 10));
        CHECK.no("16 no class -1", desk.start(0, -1, 10));
        CHECK.no("16 no such method", desk.start(0, 0, 12));
        CHECK.no("16 a method's number is no name", desk.start(0, 0, 0));
        for (int t = 0; t < 3; t++) {
            CHECK.same("16 still idle", desk.frame(t, 0), HotEditions.NONE);
            CHECK.yes("16 start", desk.start(t, 0, 11));
            CHECK.no("16 not idle", desk.start(t, 0, 11));
            CHECK.same("16 one frame", desk.frame(t, 1), HotEditions.NONE);
        }
        CHECK.same("16 the second start left it", desk.step(0, 100), 2);
        CHECK.yes("16 idle again", desk.start(0, 0, 11));
    }

    private static void stepCounts() {
        HotEditions desk = Desks.withCounter();
        CHECK.same("17 idle", desk.step(0, 100), 0);
        desk.start(0, 0, 10);
        CHECK.same("17 none", desk.step(0, 0), 0);
        CHECK.same("17 one", desk.step(0, 1), 1);
        CHECK.same("17 two", desk.step(0, 2), 2);
        CHECK.same("17 fewer", desk.step(0, 100), 3);
        CHECK.same("17 idle", desk.step(0, 1), 0);
        CHECK.same("17 other threads have none", desk.step(1, 1), 0);
        desk.blank();
        desk.set(1, 1);
        desk.method(1, 0);
        desk.load();
        desk.start(1, 1, 1);
        CHECK.same("17 the end of empty code is a step", desk.step(1, 100), 1);
    }

    private static void stepRefused() {
        HotEditions desk = Desks.withCounter();
        desk.start(0, 0, 11);
        CHECK.same("17 n 101", desk.step(0, 101), HotEditions.NONE);
        CHECK.same("17 n -1", desk.step(0, -1), HotEditions.NONE);
        CHECK.same("17 n far off", desk.step(0, Integer.MIN_VALUE), HotEditions.NONE);
        CHECK.same("17 thread 3", desk.step(3, 1), HotEditions.NONE);
        CHECK.same("17 thread -1", desk.step(-1, 1), HotEditions.NONE);
        CHECK.same("17 idle thread, n 101", desk.step(1, 101), HotEditions.NONE);
        CHECK.same("17 nothing was stepped", desk.step(0, 100), 2);
    }

    private static void loadDeep(HotEditions desk) {
        desk.blank();
        desk.method(30, 0);
        desk.code(1, 0, 30);
        desk.code(0, 1, 0);
        desk.code(1, 0, 30);
        desk.load();
    }

    private static void sumsGoUp() {
        HotEditions desk = new HotEditions();
        Desks.loadPlain(desk, 1, -1, 100);
        desk.blank();
        desk.method(20, 0);
        desk.code(0, 1, 0);
        desk.code(1, 1, 10);
        desk.code(1, 0, 21);
        desk.code(0, 2, 0);
        desk.method(21, 0);
        desk.code(1, 1, 10);
        desk.code(0, 1000, 0);
        desk.load();
        CHECK.same("17 sums", Desks.run(desk, 2, 0, 20), 1203);
        CHECK.same("17 a frame's sum begins at 0", Desks.run(desk, 2, 0, 20), 1203);
    }

    private static void sumsWrap() {
        HotEditions desk = new HotEditions();
        Desks.loadPlain(desk, 1, -1, Integer.MAX_VALUE);
        desk.blank();
        desk.method(20, 0);
        desk.code(0, Integer.MAX_VALUE, 0);
        desk.code(0, 1, 0);
        desk.method(21, 0);
        desk.code(0, 2, 0);
        desk.code(1, 1, 10);
        desk.load();
        CHECK.same("17 an addition wraps", Desks.run(desk, 0, 0, 20), Integer.MIN_VALUE);
        CHECK.same("17 a sum from above wraps", Desks.run(desk, 0, 0, 21), Integer.MIN_VALUE + 1);
    }

    private static void fiveFrames() {
        HotEditions desk = new HotEditions();
        loadDeep(desk);
        desk.start(0, 0, 30);
        CHECK.same("17 four calls", desk.step(0, 4), 4);
        CHECK.same("17 five frames", desk.frame(0, 4), 8);
        CHECK.same("17 a call that does nothing", desk.step(0, 1), 1);
        CHECK.same("17 five frames", desk.frame(0, 4), 8);
        CHECK.same("17 no sixth", desk.frame(0, 5), HotEditions.NONE);
        CHECK.same("17 the place grew", desk.step(0, 3), 3);
        CHECK.same("17 four frames", desk.frame(0, 4), HotEditions.NONE);
        CHECK.same("17 four frames", desk.frame(0, 3), 8);
        int rest = 0;
        for (int i = 0; i < 10; i++) {
            rest += desk.step(0, 100);
        }
        // 31 frames in all, each of four steps (its end counts), less the eight above.
        CHECK.same("17 all steps", rest, 31 * 4 - 8);
        CHECK.same("17 all sums", desk.result(0), 31);
    }

    private static void frames() {
        HotEditions desk = Desks.withCounter();
        Desks.loadPlain(desk, 5, -1, 1);
        desk.copy(5);
        desk.choose(0);
        desk.code(1, 0, 10);
        Desks.swapDraft(desk, 5);
        desk.start(1, 5, 10);
        desk.step(1, 3);
        CHECK.same("18 lowest", desk.frame(1, 0), 8 * 2 + 5);
        CHECK.same("18 second", desk.frame(1, 1), 8);
        CHECK.same("18 top", desk.frame(1, 2), 8);
        CHECK.same("18 none above", desk.frame(1, 3), HotEditions.NONE);
        CHECK.same("18 none below", desk.frame(1, -1), HotEditions.NONE);
        CHECK.same("18 far off", desk.frame(1, Integer.MAX_VALUE), HotEditions.NONE);
        CHECK.same("18 other thread", desk.frame(0, 0), HotEditions.NONE);
        CHECK.same("18 no thread", desk.frame(3, 0), HotEditions.NONE);
        CHECK.same("18 no thread", desk.frame(-1, 0), HotEditions.NONE);
        desk.step(1, 100);
        CHECK.same("18 idle", desk.frame(1, 0), HotEditions.NONE);
    }

    private static void results() {
        HotEditions desk = Desks.withCounter();
        CHECK.same("19 none yet", desk.result(0), 0);
        desk.start(0, 0, 10);
        desk.step(0, 5);
        CHECK.same("19 none yet", desk.result(0), 0);
        desk.step(0, 1);
        CHECK.same("19 ended", desk.result(0), 112);
        desk.start(0, 0, 11);
        desk.step(0, 1);
        CHECK.same("19 of the call that ended last", desk.result(0), 112);
        desk.step(0, 1);
        CHECK.same("19 the later one", desk.result(0), 100);
        CHECK.same("19 other thread", desk.result(1), 0);
        CHECK.same("19 no thread", desk.result(3), 0);
        CHECK.same("19 no thread", desk.result(-1), 0);
        CHECK.same("19 no thread", desk.result(Integer.MAX_VALUE), 0);
    }

    private static void swapIn(HotEditions desk, int first, int second) {
        desk.copy(0);
        desk.choose(0);
        desk.code(0, first, 0);
        desk.code(1, 0, 11);
        desk.choose(1);
        desk.code(0, second, 0);
        desk.code(0, second, 0);
        CHECK.same("14 swap", Desks.swapDraft(desk, 0), 0);
    }

    private static void newCallsSeeNewCode() {
        HotEditions desk = Desks.withCounter();
        desk.start(0, 0, 10);
        desk.start(1, 0, 11);
        desk.step(0, 1);
        swapIn(desk, 1, 2000);
        CHECK.same("17 the old edition runs on", desk.frame(0, 0), 8);
        desk.step(0, 1);
        CHECK.same("17 its call is of the new one", desk.frame(0, 1), 16);
        swapIn(desk, 1, 7);
        CHECK.same("17 each its own code", desk.step(0, 100), 5);
        CHECK.same("17 each its own code", desk.result(0), 5 + 4000 + 7);
        CHECK.same("17 the old code", desk.step(1, 100), 2);
        CHECK.same("17 the old code", desk.result(1), 100);
        CHECK.same("17 the newest", Desks.run(desk, 1, 0, 10), 15);
    }

    private static void editions() {
        HotEditions desk = new HotEditions();
        CHECK.same("20 not loaded", desk.edition(4), 0);
        Desks.loadPlain(desk, 4, -1, 0);
        CHECK.same("20 loaded", desk.edition(4), 1);
        CHECK.same("20 another", desk.edition(0), 0);
        CHECK.same("20 no class", desk.edition(6), 0);
        CHECK.same("20 no class", desk.edition(-1), 0);
        CHECK.same("20 no class", desk.edition(Integer.MIN_VALUE), 0);
        for (int e = 2; e < 150; e++) {
            desk.repeat(4);
            CHECK.same("20 edition", desk.edition(4), e);
        }
        desk.start(0, 4, 10);
        CHECK.same("18 a high edition", desk.frame(0, 0), 8 * 149 + 4);
    }

    private static void keptEditions() {
        HotEditions desk = Desks.withCounter();
        CHECK.same("21 the current one", desk.kept(0), 1);
        desk.start(0, 0, 10);
        CHECK.same("21 a frame of the current one", desk.kept(0), 1);
        desk.repeat(0);
        CHECK.same("21 a frame of an old one", desk.kept(0), 2);
        desk.step(0, 2);
        CHECK.same("21 and one of the current one", desk.kept(0), 2);
        desk.repeat(0);
        CHECK.same("21 two old ones", desk.kept(0), 3);
        desk.repeat(0);
        CHECK.same("21 one that no frame is of", desk.kept(0), 3);
        desk.step(0, 2);
        CHECK.same("21 the top frame went", desk.kept(0), 2);
        desk.start(1, 0, 11);
        desk.start(2, 0, 11);
        desk.repeat(0);
        CHECK.same("21 two frames of one edition", desk.kept(0), 3);
        desk.step(1, 100);
        CHECK.same("21 one of them is left", desk.kept(0), 3);
        desk.step(2, 100);
        CHECK.same("21 none is left", desk.kept(0), 2);
        desk.step(0, 100);
        CHECK.same("21 all ended", desk.kept(0), 1);
    }

    private static void keptOfEachClass() {
        HotEditions desk = Desks.withCounter();
        Desks.loadPlain(desk, 1, -1, 0);
        desk.start(0, 0, 11);
        desk.repeat(1);
        CHECK.same("21 another class's frame", desk.kept(1), 1);
        desk.repeat(0);
        CHECK.same("21 its own frame", desk.kept(0), 2);
        desk.repeat(1);
        CHECK.same("21 another class's frame", desk.kept(1), 1);
        CHECK.same("21 not loaded", desk.kept(2), 0);
        CHECK.same("21 no class", desk.kept(6), 0);
        CHECK.same("21 no class", desk.kept(-1), 0);
        HotEditions deep = new HotEditions();
        loadDeep(deep);
        for (int t = 0; t < 3; t++) {
            deep.start(t, 0, 30);
            deep.repeat(0);
            for (int k = 0; k < 4; k++) {
                deep.step(t, 1);
                deep.repeat(0);
            }
        }
        CHECK.same("21 fifteen frames, each of another edition", deep.kept(0), 16);
    }

    private static void keptOnceAThread() {
        HotEditions desk = new HotEditions();
        loadDeep(desk);
        for (int t = 0; t < 3; t++) {
            desk.start(t, 0, 30);
            desk.step(t, 4);
            desk.repeat(0);
            CHECK.same("21 five frames of one edition a thread", desk.kept(0), t + 2);
        }
        for (int t = 0; t < 3; t++) {
            for (int i = 0; i < 10; i++) {
                desk.step(t, 100);
            }
            CHECK.same("21 each ends", desk.kept(0), t == 2 ? 1 : 3 - t);
        }
    }
}
