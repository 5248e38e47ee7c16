/** Promise 16: a call begins on an idle thread. */
final class StartTest {
    public static void main(String[] args) {
        Cases.run(StartTest.class);
    }

    @Says(promise = 16, value = "A frame of class c, current edition, method named m, comes on an idle thread")
    static void startOnEveryThread(Check check) {
        HotEditions desk = Desks.withPlain(6);
        for (int t = 0; t < 3; t++) {
            check.yes("start", desk.start(t, 3 + t, 10));
            check.same("frame", desk.frame(t, 0), 8 + 3 + t);
            check.none("one frame alone", desk.frame(t, 1));
        }
    }

    @Says(promise = 16, value = "A frame of class c, current edition, method named m, comes on an idle thread")
    static void startOfTheFirstAndTheLastMethod(Check check) {
        HotEditions desk = new HotEditions();
        for (int m = 10; m < 14; m++) {
            desk.method(m, 0);
            desk.code(0, m, 0);
        }
        desk.load();
        check.same("first", Desks.run(desk, 0, 0, 10), 10);
        check.same("last", Desks.run(desk, 0, 0, 13), 13);
    }

    @Says(promise = 16, value = "A frame of class c, current edition, method named m, comes on an idle thread")
    static void startOfTheCurrentEdition(Check check) {
        HotEditions desk = Desks.withPlain(1);
        Desks.queuePlain(desk, 0, 7);
        desk.swap();
        desk.start(0, 0, 10);
        check.same("frame", desk.frame(0, 0), 16);
        Desks.finish(desk, 0);
        check.same("result", desk.result(0), 7);
    }

    @Says(promise = 16, value = "A frame of class c, current edition, method named m, comes on an idle thread")
    static void startOfAMethodWithoutCode(Check check) {
        HotEditions desk = new HotEditions();
        desk.method(10, 0);
        desk.load();
        check.yes("start", desk.start(0, 0, 10));
        check.same("frame", desk.frame(0, 0), 8);
    }

    @Says(promise = 16, value = "A frame of class c, current edition, method named m, comes on an idle thread")
    static void startMakesNoStep(Check check) {
        HotEditions desk = Desks.withPlain(1);
        desk.start(0, 0, 10);
        check.same("steps", desk.step(0, 100), 2);
    }

    private static void refusedStart(Check check, int t, int c, int m) {
        HotEditions desk = Desks.withPlain(5);
        check.no("start", desk.start(t, c, m));
        for (int one = 0; one < 3; one++) {
            check.none("still idle", desk.frame(one, 0));
            check.same("still idle", desk.step(one, 1), 0);
        }
    }

    @Says(promise = 16, value = "false (refused) if there is no such thread")
    static void threadTooSmall(Check check) {
        refusedStart(check, -1, 0, 10);
    }

    @Says(promise = 16, value = "false (refused) if there is no such thread")
    static void threadTooLarge(Check check) {
        refusedStart(check, 3, 0, 10);
    }

    @Says(promise = 16, value = "false (refused) if there is no such thread")
    static void threadFarOff(Check check) {
        for (int t : Desks.far()) {
            refusedStart(check, t, 0, 10);
        }
    }

    @Says(promise = 16, value = "it is not idle")
    static void startOnABusyThread(Check check) {
        HotEditions desk = Desks.withPlain(6);
        desk.start(0, 3, 10);
        check.no("before the first step", desk.start(0, 4, 10));
        desk.step(0, 1);
        check.no("before the last step", desk.start(0, 4, 10));
        check.same("the frame stays", desk.frame(0, 0), 8 + 3);
        check.none("no second frame", desk.frame(0, 1));
        check.same("the last step", desk.step(0, 100), 1);
        check.same("result", desk.result(0), 3);
        check.yes("idle now", desk.start(0, 4, 10));
    }

    @Says(promise = 16, value = "it is not idle")
    static void startOnAThreadWithFiveFrames(Check check) {
        HotEditions desk = Desks.withDeep();
        desk.start(0, 0, 30);
        desk.step(0, 4);
        check.no("start", desk.start(0, 0, 30));
        check.none("no sixth frame", desk.frame(0, 5));
    }

    @Says(promise = 16, value = "it is not idle")
    static void otherThreadsMayBeBusy(Check check) {
        HotEditions desk = Desks.withPlain(1);
        check.yes("thread 2", desk.start(2, 0, 10));
        check.yes("thread 0", desk.start(0, 0, 10));
        check.yes("thread 1", desk.start(1, 0, 10));
    }

    @Says(promise = 16, value = "c is no loaded class")
    static void startOfAClassThatIsNotLoaded(Check check) {
        refusedStart(check, 0, 5, 10);
    }

    @Says(promise = 16, value = "c is no loaded class")
    static void startBelowTheClasses(Check check) {
        refusedStart(check, 0, -1, 10);
    }

    @Says(promise = 16, value = "c is no loaded class")
    static void startAboveTheClasses(Check check) {
        refusedStart(check, 0, 6, 10);
    }

    @Says(promise = 16, value = "c is no loaded class")
    static void startFarOff(Check check) {
        for (int c : Desks.far()) {
            refusedStart(check, 0, c, 10);
        }
    }

    @Says(promise = 16, value = "or has no such method")
    static void startOfNoMethod(Check check) {
        refusedStart(check, 0, 0, 11);
        refusedStart(check, 0, 0, 0);
        refusedStart(check, 0, 0, -1);
    }

    @Says(promise = 16, value = "or has no such method")
    static void startInAClassWithoutMethods(Check check) {
        HotEditions desk = new HotEditions();
        desk.load();
        check.no("start", desk.start(0, 0, 0));
    }

    @Says(promise = 16, value = "or has no such method")
    static void methodOfTheDraftAlone(Check check) {
        HotEditions desk = Desks.withPlain(1);
        desk.method(11, 0);
        check.no("start", desk.start(0, 0, 11));
        desk.queue(0);
        check.no("start", desk.start(0, 0, 11));
    }

    @Says(promise = 16, value = "or has no such method")
    static void methodAboveTheClassIsNotItsOwn(Check check) {
        HotEditions desk = Desks.withPlain(1);
        desk.blank();
        desk.set(1, 1);
        desk.set(2, 0);
        desk.load();
        check.no("start", desk.start(0, 1, 10));
    }
}
