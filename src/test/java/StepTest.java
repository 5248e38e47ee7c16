/** Promise 17: steps, with frames that come, add up and go. */
final class StepTest {
    public static void main(String[] args) {
        Cases.run(StepTest.class);
    }

    /** A counter whose method 10, of six steps with its ends, has begun on thread 0. */
    private static HotEditions begun() {
        HotEditions desk = Desks.withCounter();
        desk.start(0, 0, 10);
        return desk;
    }

    @Says(promise = 17, value = "Makes n steps (0 .. 100) of a thread")
    static void stepsOneByOne(Check check) {
        HotEditions desk = begun();
        for (int i = 0; i < 6; i++) {
            check.same("step", desk.step(0, 1), 1);
        }
        check.same("idle", desk.step(0, 1), 0);
        check.same("result", desk.result(0), 112);
    }

    @Says(promise = 17, value = "Makes n steps (0 .. 100) of a thread")
    static void noStep(Check check) {
        HotEditions desk = begun();
        check.same("step", desk.step(0, 0), 0);
        check.same("all are left", desk.step(0, 100), 6);
    }

    /** The run of a deep one has 124 steps. */
    @Says(promise = 17, value = "Makes n steps (0 .. 100) of a thread")
    static void hundredSteps(Check check) {
        HotEditions desk = Desks.withDeep();
        desk.start(0, 0, 30);
        check.same("step", desk.step(0, 100), 100);
        check.same("the rest", desk.step(0, 100), 24);
        check.same("result", desk.result(0), 31);
    }

    @Says(promise = 17, value = "or fewer: not after it is idle")
    static void fewerSteps(Check check) {
        check.same("100", begun().step(0, 100), 6);
        check.same("7", begun().step(0, 7), 6);
        check.same("6", begun().step(0, 6), 6);
        check.same("5", begun().step(0, 5), 5);
    }

    @Says(promise = 17, value = "or fewer: not after it is idle")
    static void stepOfAnIdleThread(Check check) {
        HotEditions desk = Desks.withCounter();
        for (int t = 0; t < 3; t++) {
            check.same("never begun", desk.step(t, 100), 0);
        }
        check.same("run", Desks.run(desk, 1, 0, 10), 112);
        check.same("ended", desk.step(1, 100), 0);
        check.same("the result stays", desk.result(1), 112);
    }

    @Says(promise = 17, value = "How many")
    static void stepsOfOneThreadAlone(Check check) {
        HotEditions desk = Desks.withCounter();
        for (int t = 0; t < 3; t++) {
            desk.start(t, 0, 10);
        }
        check.same("thread 1", desk.step(1, 2), 2);
        check.none("thread 0 has one frame", desk.frame(0, 1));
        check.none("thread 2 has one frame", desk.frame(2, 1));
        check.same("thread 0", desk.step(0, 100), 6);
        check.same("thread 1", desk.step(1, 100), 4);
        check.same("thread 2", desk.step(2, 100), 6);
    }

    private static void refusedStep(Check check, int t, int n) {
        HotEditions desk = Desks.withCounter();
        for (int one = 0; one < 3; one++) {
            desk.start(one, 0, 10);
        }
        check.none("step", desk.step(t, n));
        for (int one = 0; one < 3; one++) {
            check.same("no step was made", desk.step(one, 100), 6);
        }
    }

    @Says(promise = 17, value = "NONE (refused) if there is no such thread")
    static void threadTooSmall(Check check) {
        refusedStep(check, -1, 1);
    }

    @Says(promise = 17, value = "NONE (refused) if there is no such thread")
    static void threadTooLarge(Check check) {
        refusedStep(check, 3, 1);
    }

    @Says(promise = 17, value = "NONE (refused) if there is no such thread")
    static void threadFarOff(Check check) {
        for (int t : Desks.far()) {
            refusedStep(check, t, 1);
        }
    }

    @Says(promise = 17, value = "NONE (refused) if there is no such thread")
    static void noStepOfNoThread(Check check) {
        refusedStep(check, 3, 0);
        refusedStep(check, -1, 101);
    }

    @Says(promise = 17, value = "or n is not 0 .. 100")
    static void stepsTooFew(Check check) {
        refusedStep(check, 0, -1);
    }

    @Says(promise = 17, value = "or n is not 0 .. 100")
    static void stepsTooMany(Check check) {
        refusedStep(check, 0, 101);
    }

    @Says(promise = 17, value = "or n is not 0 .. 100")
    static void stepsFarOff(Check check) {
        for (int n : Desks.far()) {
            refusedStep(check, 0, n);
        }
    }

    @Says(promise = 17, value = "or n is not 0 .. 100")
    static void tooManyStepsOfAnIdleThread(Check check) {
        HotEditions desk = new HotEditions();
        check.none("101", desk.step(0, 101));
        check.none("-1", desk.step(0, -1));
        check.same("100", desk.step(0, 100), 0);
        check.same("0", desk.step(0, 0), 0);
    }

    @Says(promise = Says.TERMS, value = "op 0: a is added to the sum")
    static void additions(Check check) {
        HotEditions desk = new HotEditions();
        desk.method(1, 0);
        for (int a : new int[] {1, -20, 300, 0, -4000, 50000}) {
            desk.code(0, a, 7);
        }
        desk.load();
        check.same("run", Desks.run(desk, 0, 0, 1), 46281);
    }

    private static void additionWraps(Check check, int first, int second, int due) {
        HotEditions desk = new HotEditions();
        desk.method(1, 0);
        desk.code(0, first, 0);
        desk.code(0, second, 0);
        desk.load();
        check.same("run", Desks.run(desk, 0, 0, 1), due);
    }

    @Says(promise = Says.TERMS, value = "op 0: a is added to the sum (it wraps)")
    static void additionWrapsUpwards(Check check) {
        additionWraps(check, Integer.MAX_VALUE, 1, Integer.MIN_VALUE);
        additionWraps(check, Integer.MAX_VALUE, Integer.MAX_VALUE, -2);
    }

    @Says(promise = Says.TERMS, value = "op 0: a is added to the sum (it wraps)")
    static void additionWrapsDownwards(Check check) {
        additionWraps(check, Integer.MIN_VALUE, -1, Integer.MAX_VALUE);
        additionWraps(check, Integer.MIN_VALUE, Integer.MIN_VALUE, 0);
    }

    @Says(promise = Says.TERMS, value = "it has a place in that method's code and a SUM, both 0 at first")
    static void frameBeginsAnew(Check check) {
        HotEditions desk = Desks.withCounter();
        for (int i = 0; i < 3; i++) {
            check.same("run", Desks.run(desk, 0, 0, 10), 112);
        }
    }

    @Says(promise = Says.TERMS, value = "it has a place in that method's code and a SUM, both 0 at first")
    static void frameAboveBeginsAnew(Check check) {
        HotEditions desk = new HotEditions();
        desk.method(10, 0);
        desk.code(1, 0, 11);
        desk.code(1, 0, 11);
        desk.code(1, 0, 11);
        desk.method(11, 0);
        desk.code(0, 1, 0);
        desk.code(0, 10, 0);
        desk.load();
        check.same("run", Desks.run(desk, 0, 0, 10), 33);
    }

    @Says(promise = Says.TERMS, value = "op 1: if there are 5 frames, nothing")
    static void callAtFiveFrames(Check check) {
        HotEditions desk = Desks.withDeep();
        desk.start(0, 0, 30);
        check.same("four calls", desk.step(0, 4), 4);
        check.same("the fifth frame", desk.frame(0, 4), 8);
        check.same("a call that does nothing is a step", desk.step(0, 1), 1);
        check.none("no sixth", desk.frame(0, 5));
        check.same("an addition", desk.step(0, 1), 1);
        check.same("a call that does nothing again", desk.step(0, 1), 1);
        check.same("the fifth frame is still there", desk.frame(0, 4), 8);
        check.same("its end", desk.step(0, 1), 1);
        check.none("the fifth is gone", desk.frame(0, 4));
        check.same("the fourth is there", desk.frame(0, 3), 8);
    }

    @Says(promise = Says.TERMS, value = "each has at most 5 FRAMES, the latest on top, and is IDLE when it has none")
    static void wholeRunOfFiveFrames(Check check) {
        HotEditions desk = Desks.withDeep();
        desk.start(0, 0, 30);
        check.same("31 frames of four steps each", Desks.finish(desk, 0), 124);
        check.same("31 additions", desk.result(0), 31);
    }

    @Says(promise = Says.TERMS, value = "else a frame of class a, current edition, method named b, comes on top")
    static void callAtFourFrames(Check check) {
        HotEditions desk = Desks.withDeep();
        desk.start(0, 0, 30);
        desk.step(0, 3);
        check.none("four frames", desk.frame(0, 4));
        desk.step(0, 1);
        check.same("a fifth", desk.frame(0, 4), 8);
    }

    @Says(promise = Says.TERMS, value = "else a frame of class a, current edition, method named b, comes on top")
    static void callOfAnotherClass(Check check) {
        HotEditions desk = Desks.withPlain(6);
        desk.blank();
        desk.copy(2);
        desk.choose(0);
        desk.code(1, 5, 10);
        desk.code(1, 3, 10);
        Desks.swapDraft(desk, 2);
        desk.start(1, 2, 10);
        desk.step(1, 1);
        check.same("class 5", desk.frame(1, 1), 8 + 5);
        desk.step(1, 3);
        check.same("class 3", desk.frame(1, 1), 8 + 3);
        Desks.finish(desk, 1);
        check.same("result", desk.result(1), 8);
    }

    @Says(promise = Says.TERMS, value = "else a frame of class a, current edition, method named b, comes on top")
    static void callOfTheEditionThatIsCurrentThen(Check check) {
        HotEditions desk = Desks.withCounter();
        desk.start(0, 0, 10);
        desk.step(0, 1);
        desk.copy(0);
        desk.choose(1);
        desk.code(0, 3000, 0);
        Desks.swapDraft(desk, 0);
        desk.step(0, 1);
        check.same("the lower frame", desk.frame(0, 0), 8);
        check.same("the new frame", desk.frame(0, 1), 16);
        Desks.finish(desk, 0);
        check.same("result", desk.result(0), 5 + 3000 + 7);
    }

    @Says(promise = Says.TERMS, value = "of the edition that was current when it came")
    static void runningFramesKeepTheirCode(Check check) {
        HotEditions desk = Desks.withCounter();
        desk.start(0, 0, 10);
        desk.step(0, 2);
        desk.start(1, 0, 11);
        desk.copy(0);
        desk.choose(0);
        desk.choose(1);
        Desks.swapDraft(desk, 0);
        check.same("steps of the old code", desk.step(0, 100), 4);
        check.same("result of the old code", desk.result(0), 112);
        check.same("a frame without a step yet", desk.step(1, 100), 2);
        check.same("its result", desk.result(1), 100);
        check.same("the new code", Desks.run(desk, 0, 0, 10), 0);
    }

    @Says(promise = Says.TERMS, value = "If none is left, the frame goes")
    static void endOfEmptyCodeIsAStep(Check check) {
        HotEditions desk = new HotEditions();
        desk.method(10, 0);
        desk.load();
        desk.start(0, 0, 10);
        check.same("steps", desk.step(0, 100), 1);
        check.none("idle", desk.frame(0, 0));
    }

    @Says(promise = Says.TERMS, value = "If none is left, the frame goes")
    static void endOfFullCodeIsAStep(Check check) {
        HotEditions desk = Desks.withFull();
        desk.start(0, 0, 13);
        check.same("six instructions", desk.step(0, 6), 6);
        check.same("the frame is there", desk.frame(0, 0), 8);
        check.same("its end", desk.step(0, 100), 1);
        check.none("idle", desk.frame(0, 0));
    }

    @Says(promise = Says.TERMS, value = "its sum is added to that of the frame that is on top now")
    static void sumsGoDownOneFrame(Check check) {
        HotEditions desk = new HotEditions();
        desk.method(10, 0);
        desk.code(0, 1, 0);
        desk.code(1, 0, 11);
        desk.method(11, 0);
        desk.code(0, 20, 0);
        desk.code(1, 0, 12);
        desk.code(0, 300, 0);
        desk.method(12, 0);
        desk.code(0, 4000, 0);
        desk.load();
        check.same("run", Desks.run(desk, 0, 0, 10), 4321);
    }

    private static void handedSumWraps(Check check, int lower, int upper, int due) {
        HotEditions desk = new HotEditions();
        Desks.loadPlain(desk, 1, HotEditions.NONE, upper);
        desk.blank();
        desk.method(10, 0);
        desk.code(0, lower, 0);
        desk.code(1, 1, 10);
        desk.load();
        check.same("run", Desks.run(desk, 0, 0, 10), due);
    }

    @Says(promise = Says.TERMS, value = "(wrapping)")
    static void handedSumWrapsUpwards(Check check) {
        handedSumWraps(check, 2, Integer.MAX_VALUE, Integer.MIN_VALUE + 1);
    }

    @Says(promise = Says.TERMS, value = "(wrapping)")
    static void handedSumWrapsDownwards(Check check) {
        handedSumWraps(check, -2, Integer.MIN_VALUE, Integer.MAX_VALUE - 1);
    }

    @Says(promise = Says.TERMS, value = "or, if there is none, is the thread's RESULT")
    static void resultComesWithTheLastFrame(Check check) {
        HotEditions desk = begun();
        desk.step(0, 5);
        check.same("the last frame is there", desk.result(0), 0);
        desk.step(0, 1);
        check.same("it is gone", desk.result(0), 112);
    }
}
