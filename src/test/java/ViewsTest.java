/** Promises 18 to 21: frame, result, edition and kept. */
final class ViewsTest {
    public static void main(String[] args) {
        Cases.run(ViewsTest.class);
    }

    /** Thread 1 has frames of class 5, edition 2, and, above, of class 0, edition 1, twice. */
    private static HotEditions threeFrames() {
        HotEditions desk = Desks.withCounter();
        Desks.loadPlain(desk, 5, HotEditions.NONE, 1);
        desk.choose(0);
        desk.code(1, 0, 10);
        Desks.swapDraft(desk, 5);
        desk.start(1, 5, 10);
        desk.step(1, 3);
        return desk;
    }

    @Says(promise = 18, value = "Frame k of a thread (0 the lowest): 8 times its edition, and its class")
    static void framesFromTheLowest(Check check) {
        HotEditions desk = threeFrames();
        check.same("lowest", desk.frame(1, 0), 16 + 5);
        check.same("second", desk.frame(1, 1), 8);
        check.same("top", desk.frame(1, 2), 8);
    }

    @Says(promise = 18, value = "8 times its edition, and its class")
    static void frameOfAHighEdition(Check check) {
        HotEditions desk = Desks.withPlain(6);
        for (int i = 0; i < 300; i++) {
            desk.repeat(5);
        }
        desk.start(0, 5, 10);
        check.same("frame", desk.frame(0, 0), 8 * 301 + 5);
    }

    @Says(promise = 18, value = "8 times its edition, and its class")
    static void frameStaysOfItsEdition(Check check) {
        HotEditions desk = threeFrames();
        desk.repeat(0);
        desk.repeat(5);
        check.same("lowest", desk.frame(1, 0), 16 + 5);
        check.same("top", desk.frame(1, 2), 8);
    }

    @Says(promise = 18, value = "8 times its edition, and its class")
    static void fiveFramesOfThreeThreads(Check check) {
        HotEditions desk = Desks.withDeep();
        for (int t = 0; t < 3; t++) {
            desk.start(t, 0, 30);
            desk.step(t, 4);
            for (int k = 0; k < 5; k++) {
                check.same("frame", desk.frame(t, k), 8 * (t + 1));
            }
            desk.repeat(0);
        }
    }

    private static void noFrame(Check check, int t, int k) {
        check.none("frame", threeFrames().frame(t, k));
    }

    @Says(promise = 18, value = "NONE if there is none")
    static void frameAboveTheTop(Check check) {
        noFrame(check, 1, 3);
    }

    @Says(promise = 18, value = "NONE if there is none")
    static void frameBelowTheLowest(Check check) {
        noFrame(check, 1, -1);
    }

    @Says(promise = 18, value = "NONE if there is none")
    static void frameFarOff(Check check) {
        for (int far : Desks.far()) {
            noFrame(check, 1, far);
            noFrame(check, far, 0);
            noFrame(check, far, far);
        }
    }

    @Says(promise = 18, value = "NONE if there is none")
    static void sixthFrame(Check check) {
        HotEditions desk = Desks.withDeep();
        desk.start(0, 0, 30);
        desk.step(0, 5);
        check.same("fifth", desk.frame(0, 4), 8);
        check.none("sixth", desk.frame(0, 5));
    }

    @Says(promise = 18, value = "NONE if there is none")
    static void frameOfAnIdleThread(Check check) {
        noFrame(check, 0, 0);
        noFrame(check, 2, 0);
    }

    @Says(promise = 18, value = "NONE if there is none")
    static void frameOfAThreadThatIsIdleAgain(Check check) {
        HotEditions desk = threeFrames();
        Desks.finish(desk, 1);
        for (int k = 0; k < 5; k++) {
            check.none("frame", desk.frame(1, k));
        }
    }

    @Says(promise = 18, value = "NONE if there is none")
    static void frameThatIsGone(Check check) {
        HotEditions desk = threeFrames();
        desk.step(1, 2);
        check.none("top", desk.frame(1, 2));
        check.same("second", desk.frame(1, 1), 8);
    }

    @Says(promise = 18, value = "NONE if there is none")
    static void frameOfNoThread(Check check) {
        noFrame(check, -1, 0);
        noFrame(check, 3, 0);
    }

    @Says(promise = 19, value = "The result of a thread, of the call that ended last")
    static void resultOfTheLastCall(Check check) {
        HotEditions desk = Desks.withCounter();
        check.same("first", Desks.run(desk, 0, 0, 10), 112);
        check.same("second", Desks.run(desk, 0, 0, 11), 100);
    }

    @Says(promise = 19, value = "The result of a thread, of the call that ended last")
    static void resultStaysWhileTheNextCallRuns(Check check) {
        HotEditions desk = Desks.withCounter();
        Desks.run(desk, 0, 0, 10);
        desk.start(0, 0, 11);
        check.same("behind start", desk.result(0), 112);
        desk.step(0, 1);
        check.same("behind a step", desk.result(0), 112);
        desk.step(0, 1);
        check.same("behind the end", desk.result(0), 100);
    }

    @Says(promise = 19, value = "The result of a thread, of the call that ended last")
    static void resultOfZeroOverAnother(Check check) {
        HotEditions desk = Desks.withPlain(2);
        Desks.run(desk, 0, 1, 10);
        check.same("one", desk.result(0), 1);
        Desks.run(desk, 0, 0, 10);
        check.same("zero", desk.result(0), 0);
    }

    @Says(promise = 19, value = "The result of a thread, of the call that ended last")
    static void innerCallsAreNoResult(Check check) {
        HotEditions desk = Desks.withCounter();
        desk.start(0, 0, 10);
        desk.step(0, 4);
        check.none("the inner call has ended", desk.frame(0, 1));
        check.same("result", desk.result(0), 0);
    }

    @Says(promise = 19, value = "The result of a thread, of the call that ended last")
    static void eachThreadItsResult(Check check) {
        HotEditions desk = Desks.withPlain(4);
        for (int t = 0; t < 3; t++) {
            Desks.run(desk, t, t + 1, 10);
        }
        for (int t = 0; t < 3; t++) {
            check.same("result", desk.result(t), t + 1);
        }
    }

    @Says(promise = 19, value = "0 if there was none")
    static void noCallHasEnded(Check check) {
        HotEditions desk = Desks.withCounter();
        check.same("none begun", desk.result(0), 0);
        desk.start(0, 0, 10);
        desk.step(0, 5);
        check.same("none ended", desk.result(0), 0);
    }

    @Says(promise = 19, value = "or there is no such thread")
    static void resultOfNoThread(Check check) {
        HotEditions desk = Desks.withCounter();
        for (int t = 0; t < 3; t++) {
            Desks.run(desk, t, 0, 10);
        }
        check.same("too small", desk.result(-1), 0);
        check.same("too large", desk.result(3), 0);
        for (int t : Desks.far()) {
            check.same("far off", desk.result(t), 0);
        }
    }

    @Says(promise = 20, value = "The number of the current edition of class c")
    static void editionOfEveryClass(Check check) {
        HotEditions desk = Desks.withPlain(6);
        for (int c = 0; c < 6; c++) {
            for (int i = 0; i < c; i++) {
                desk.repeat(c);
            }
        }
        for (int c = 0; c < 6; c++) {
            check.same("edition", desk.edition(c), c + 1);
        }
    }

    @Says(promise = Says.TERMS, value = "a loaded one has EDITIONS 1, 2, .., each with a definition")
    static void editionsAreCounted(Check check) {
        HotEditions desk = Desks.withPlain(1);
        for (int e = 1; e < 200; e++) {
            check.same("edition", desk.edition(0), e);
            desk.repeat(0);
        }
    }

    /** An object is used for at most 512 calls: the last of them is answered like any other. */
    static void lastCallOfALongRun(Check check) {
        HotEditions desk = new HotEditions();
        desk.method(10, 0);
        desk.load();
        for (int call = 3; call <= 511; call++) {
            check.same("repeat", desk.repeat(0), 0);
        }
        check.same("the 512th call", desk.edition(0), 510);
    }

    @Says(promise = 20, value = "0 if it is not loaded")
    static void editionOfAClassThatIsNotLoaded(Check check) {
        HotEditions desk = Desks.withPlain(5);
        check.same("edition", desk.edition(5), 0);
        check.same("load", Desks.loadPlain(desk, 5, 5, 0), 3);
        check.same("behind a load that was broken", desk.edition(5), 0);
    }

    @Says(promise = 20, value = "or there is no such class")
    static void editionOfNoClass(Check check) {
        HotEditions desk = Desks.withPlain(6);
        check.same("too small", desk.edition(-1), 0);
        check.same("too large", desk.edition(6), 0);
        for (int c : Desks.far()) {
            check.same("far off", desk.edition(c), 0);
        }
    }

    @Says(promise = 21, value = "How many editions of class c are kept")
    static void currentEditionAlone(Check check) {
        HotEditions desk = Desks.withPlain(1);
        check.same("loaded", desk.kept(0), 1);
        desk.repeat(0);
        desk.repeat(0);
        check.same("editions that no frame is of", desk.kept(0), 1);
    }

    @Says(promise = Says.TERMS, value = "KEPT are, of a loaded class, the current edition and those that a frame is of")
    static void frameOfTheCurrentEdition(Check check) {
        HotEditions desk = Desks.withPlain(1);
        for (int t = 0; t < 3; t++) {
            desk.start(t, 0, 10);
        }
        check.same("kept", desk.kept(0), 1);
    }

    @Says(promise = Says.TERMS, value = "KEPT are, of a loaded class, the current edition and those that a frame is of")
    static void frameOfAnOldEdition(Check check) {
        HotEditions desk = Desks.withPlain(1);
        desk.start(0, 0, 10);
        desk.repeat(0);
        check.same("runs", desk.kept(0), 2);
        desk.step(0, 1);
        check.same("has no instruction left", desk.kept(0), 2);
        desk.step(0, 1);
        check.same("has ended", desk.kept(0), 1);
    }

    @Says(promise = Says.TERMS, value = "KEPT are, of a loaded class, the current edition and those that a frame is of")
    static void editionBetweenThatNoFrameIsOf(Check check) {
        HotEditions desk = Desks.withPlain(1);
        desk.start(0, 0, 10);
        desk.repeat(0);
        desk.repeat(0);
        desk.start(1, 0, 10);
        desk.repeat(0);
        check.same("1, 3 and 4 of four", desk.kept(0), 3);
    }

    @Says(promise = 21, value = "How many editions of class c are kept")
    static void twoThreadsOfOneEdition(Check check) {
        HotEditions desk = Desks.withPlain(1);
        desk.start(0, 0, 10);
        desk.start(2, 0, 10);
        desk.repeat(0);
        check.same("both", desk.kept(0), 2);
        Desks.finish(desk, 0);
        check.same("one", desk.kept(0), 2);
        Desks.finish(desk, 2);
        check.same("none", desk.kept(0), 1);
    }

    @Says(promise = 21, value = "How many editions of class c are kept")
    static void fiveFramesOfOneEdition(Check check) {
        HotEditions desk = Desks.withDeep();
        for (int t = 0; t < 3; t++) {
            desk.start(t, 0, 30);
            desk.step(t, 4);
            desk.repeat(0);
            check.same("one a thread", desk.kept(0), t + 2);
        }
        for (int t = 0; t < 3; t++) {
            Desks.finish(desk, t);
            check.same("one fewer", desk.kept(0), 3 - t);
        }
    }

    @Says(promise = 21, value = "How many editions of class c are kept")
    static void asManyAsCanBe(Check check) {
        HotEditions desk = Desks.withDeep();
        for (int t = 0; t < 3; t++) {
            desk.start(t, 0, 30);
            desk.repeat(0);
            for (int k = 0; k < 4; k++) {
                desk.step(t, 1);
                desk.repeat(0);
            }
        }
        check.same("15 frames of an edition each, and the current one", desk.kept(0), 16);
    }

    @Says(promise = 21, value = "How many editions of class c are kept")
    static void framesOfAnotherClass(Check check) {
        HotEditions desk = Desks.withPlain(2);
        desk.start(0, 0, 10);
        desk.repeat(0);
        desk.repeat(1);
        check.same("its own", desk.kept(0), 2);
        check.same("the other's", desk.kept(1), 1);
    }

    @Says(promise = 21, value = "0 if it is not loaded")
    static void keptOfAClassThatIsNotLoaded(Check check) {
        check.same("kept", Desks.withPlain(5).kept(5), 0);
    }

    @Says(promise = 21, value = "or there is no such class")
    static void keptOfNoClass(Check check) {
        HotEditions desk = Desks.withPlain(6);
        check.same("too small", desk.kept(-1), 0);
        check.same("too large", desk.kept(6), 0);
        for (int c : Desks.far()) {
            check.same("far off", desk.kept(c), 0);
        }
    }

    @Says(promise = Says.TERMS, value = "CLASSES are 0 .. 5")
    static void classesAreSix(Check check) {
        HotEditions desk = Desks.withPlain(6);
        for (int c = -2; c < 9; c++) {
            boolean loaded = c >= 0 && c <= 5;
            check.same("edition " + c, desk.edition(c), loaded ? 1 : 0);
            check.same("kept " + c, desk.kept(c), loaded ? 1 : 0);
        }
    }

    @Says(promise = Says.TERMS, value = "THREADS are 0 .. 2")
    static void threadsAreThree(Check check) {
        HotEditions desk = Desks.withPlain(2);
        for (int t = -2; t < 6; t++) {
            int due = t >= 0 && t <= 2 ? 1 : Integer.MIN_VALUE;
            check.same("run on " + t, Desks.run(desk, t, 1, 10), due);
        }
    }
}
