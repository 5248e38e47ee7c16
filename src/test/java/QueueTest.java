/** Promise 13: the batch and what comes into it. */
final class QueueTest {
    public static void main(String[] args) {
        Cases.run(QueueTest.class);
    }

    @Says(promise = 13, value = "Puts a copy of the draft into the batch, meant for class c")
    static void queuedForEveryClass(Check check) {
        HotEditions desk = Desks.withPlain(6);
        for (int c = 0; c < 6; c++) {
            check.yes("queue", Desks.queuePlain(desk, c, 100 + c));
            check.same("swap", desk.swap(), 0);
            check.same("run", Desks.run(desk, 0, c, 10), 100 + c);
        }
    }

    @Says(promise = 13, value = "Puts a copy of the draft into the batch, meant for class c")
    static void laterWritingDoesNotReachTheBatch(Check check) {
        HotEditions desk = Desks.withPlain(1);
        Desks.queuePlain(desk, 0, 7);
        desk.code(0, 100, 0);
        desk.set(0, 0);
        desk.implement(4);
        check.same("swap", desk.swap(), 0);
        check.same("run", Desks.run(desk, 0, 0, 10), 7);
    }

    @Says(promise = 13, value = "Puts a copy of the draft into the batch, meant for class c")
    static void brokenDraftCanBeQueued(Check check) {
        HotEditions desk = Desks.withPlain(2);
        desk.set(0, 0);
        check.yes("queue", desk.queue(0));
        check.same("swap", desk.swap(), 1);
    }

    @Says(promise = 13, value = "Puts a copy of the draft into the batch, meant for class c")
    static void fullDraftCanBeQueued(Check check) {
        HotEditions desk = Desks.withFull();
        check.yes("queue", desk.queue(0));
        check.same("swap", desk.swap(), 0);
        check.same("run", Desks.run(desk, 0, 0, 13), 63);
    }

    @Says(promise = 13, value = "Puts a copy of the draft into the batch, meant for class c")
    static void oneDraftForThreeClasses(Check check) {
        HotEditions desk = Desks.withPlain(3);
        desk.copy(0);
        for (int c = 0; c < 3; c++) {
            check.yes("queue", desk.queue(c));
        }
        check.same("swap: NAME is not 1", desk.swap(), 16 + 5);
    }

    private static void refusedClass(Check check, int c) {
        HotEditions desk = Desks.withPlain(5);
        check.no("queue", desk.queue(c));
        for (int other = 0; other < 3; other++) {
            check.yes("three have room", Desks.queuePlain(desk, other, 9));
        }
        check.same("swap", desk.swap(), 0);
    }

    @Says(promise = 13, value = "false (refused) if c is no loaded class")
    static void queueForAClassThatIsNotLoaded(Check check) {
        refusedClass(check, 5);
    }

    @Says(promise = 13, value = "false (refused) if c is no loaded class")
    static void queueBelowTheClasses(Check check) {
        refusedClass(check, -1);
    }

    @Says(promise = 13, value = "false (refused) if c is no loaded class")
    static void queueAboveTheClasses(Check check) {
        refusedClass(check, 6);
    }

    @Says(promise = 13, value = "false (refused) if c is no loaded class")
    static void queueFarOff(Check check) {
        for (int c : Desks.far()) {
            refusedClass(check, c);
        }
    }

    @Says(promise = 13, value = "the batch has one for it")
    static void queueTwiceForOneClass(Check check) {
        HotEditions desk = Desks.withPlain(5);
        check.yes("first", Desks.queuePlain(desk, 0, 100));
        check.no("again", Desks.queuePlain(desk, 0, 200));
        check.yes("second", Desks.queuePlain(desk, 4, 100));
        check.no("the first again", Desks.queuePlain(desk, 0, 200));
        check.no("the second again", Desks.queuePlain(desk, 4, 200));
        check.same("swap", desk.swap(), 0);
        check.same("what came first", Desks.run(desk, 0, 0, 10), 100);
        check.same("what came first", Desks.run(desk, 0, 4, 10), 100);
        check.same("one edition", desk.edition(0), 2);
    }

    @Says(promise = 13, value = "the batch has one for it")
    static void nameOfAQueuedOneTakesNoClass(Check check) {
        HotEditions desk = Desks.withPlain(2);
        desk.copy(1);
        check.yes("NAME 1, meant for 0", desk.queue(0));
        check.yes("NAME 1, meant for 1", desk.queue(1));
    }

    @Says(promise = 13, value = "or has 3")
    static void fourthOfTheBatch(Check check) {
        HotEditions desk = Desks.withPlain(5);
        for (int c : new int[] {0, 4, 2}) {
            check.yes("queue", Desks.queuePlain(desk, c, 100));
        }
        check.no("a fourth", Desks.queuePlain(desk, 1, 100));
        check.no("another fourth", Desks.queuePlain(desk, 3, 100));
        check.no("one of the three", Desks.queuePlain(desk, 2, 200));
        check.same("swap", desk.swap(), 0);
        for (int c = 0; c < 5; c++) {
            check.same("edition " + c, desk.edition(c), c % 2 == 0 ? 2 : 1);
            check.same("run", Desks.run(desk, 0, c, 10), c % 2 == 0 ? 100 : c);
        }
    }

    @Says(promise = Says.TERMS, value = "the BATCH has at most 3 definitions, each meant for another loaded class")
    static void roomAgainBehindSwap(Check check) {
        HotEditions desk = Desks.withPlain(3);
        for (int round = 0; round < 3; round++) {
            for (int c = 2; c >= 0; c--) {
                check.yes("queue", Desks.queuePlain(desk, c, round));
            }
            check.no("full", desk.queue(0));
            check.same("swap", desk.swap(), 0);
        }
    }

    @Says(promise = Says.TERMS, value = "the BATCH has at most 3 definitions, each meant for another loaded class")
    static void classLoadedLaterCanBeQueued(Check check) {
        HotEditions desk = Desks.withPlain(1);
        check.no("queue before", desk.queue(1));
        Desks.loadPlain(desk, 1, HotEditions.NONE, 1);
        check.yes("queue behind load", desk.queue(1));
        check.same("swap", desk.swap(), 0);
    }
}
