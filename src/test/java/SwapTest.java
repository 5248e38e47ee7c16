/** Promise 14: swap takes all of the batch or none of it. */
final class SwapTest {
    public static void main(String[] args) {
        Cases.run(SwapTest.class);
    }

    /** Puts a copy of a class into the batch that breaks rule 12. */
    private static void queueBroken(HotEditions desk, int c) {
        desk.copy(c);
        desk.set(4, 9);
        desk.queue(c);
    }

    @Says(promise = 14, value = "Swaps the batch: 0")
    static void swapOfAnEmptyBatch(Check check) {
        HotEditions desk = Desks.withPlain(2);
        check.same("swap", desk.swap(), 0);
        check.same("swap again", desk.swap(), 0);
        check.same("edition", desk.edition(0), 1);
        check.same("edition", desk.edition(1), 1);
    }

    @Says(promise = 14, value = "Swaps the batch: 0")
    static void swapOfAnEmptyBatchChangesNothing(Check check) {
        HotEditions desk = Desks.busy();
        desk.swap();
        HotEditions twice = Desks.busy();
        twice.swap();
        check.same("swap", twice.swap(), 0);
        check.same("all that can be seen", Shown.of(twice), Shown.of(desk));
    }

    @Says(promise = 14, value = "Swaps the batch: 0")
    static void swapOfOneTwoAndThree(Check check) {
        for (int count = 1; count <= 3; count++) {
            HotEditions desk = Desks.withPlain(4);
            for (int c = 0; c < count; c++) {
                Desks.queuePlain(desk, c, 50 + c);
            }
            check.same("swap", desk.swap(), 0);
            for (int c = 0; c < 4; c++) {
                check.same("edition", desk.edition(c), c < count ? 2 : 1);
                check.same("run", Desks.run(desk, 0, c, 10), c < count ? 50 + c : c);
            }
        }
    }

    @Says(promise = 14, value = "or 16 times the class for which a rule was broken, and the rule's code")
    static void answerNamesTheClassAndTheRule(Check check) {
        HotEditions desk = Desks.withPlain(6);
        for (int c = 0; c < 6; c++) {
            queueBroken(desk, c);
            check.same("rule 12", desk.swap(), 16 * c + 12);
            desk.copy(c);
            desk.set(0, 0);
            desk.queue(c);
            check.same("rule 1", desk.swap(), 16 * c + 1);
        }
    }

    @Says(promise = 14, value = "16 times the class for which a rule was broken")
    static void classIsTheOneThatItIsMeantFor(Check check) {
        HotEditions desk = Desks.withPlain(6);
        desk.copy(1);
        check.same("NAME 1, meant for 4", Desks.swapDraft(desk, 4), 64 + 5);
    }

    @Says(promise = Says.TERMS, value = "in the order in which they came, and tested, each before the next is treated")
    static void firstThatCameAnswers(Check check) {
        HotEditions desk = Desks.withPlain(6);
        queueBroken(desk, 5);
        desk.copy(0);
        desk.set(0, 0);
        desk.queue(0);
        check.same("swap", desk.swap(), 80 + 12);
    }

    @Says(promise = Says.TERMS, value = "They are treated one after the other")
    static void eachIsTreatedForItsClass(Check check) {
        HotEditions desk = Desks.withPlain(3);
        desk.transformer(1, 100, 0, false);
        desk.transformer(1, 1000, 2, true);
        desk.transformer(1, 10000, HotEditions.NONE, true);
        for (int c = 2; c >= 0; c--) {
            Desks.queuePlain(desk, c, 1);
        }
        check.same("swap", desk.swap(), 0);
        check.same("class 0", Desks.run(desk, 0, 0, 10), 10101);
        check.same("class 1", Desks.run(desk, 0, 1, 10), 10001);
        check.same("class 2", Desks.run(desk, 0, 2, 10), 11001);
    }

    @Says(promise = Says.TERMS, value = "They are treated one after the other")
    static void treatedWhenItIsSwapped(Check check) {
        HotEditions desk = Desks.withPlain(1);
        desk.transformer(1, 100, 0, false);
        Desks.queuePlain(desk, 0, 1);
        desk.remove(0);
        desk.transformer(1, 1000, 0, false);
        desk.swap();
        check.same("run", Desks.run(desk, 0, 0, 10), 1001);
    }

    @Says(promise = Says.TERMS, value = "They are treated one after the other, in the order in which they came, and tested")
    static void treatedFormIsTested(Check check) {
        HotEditions desk = Desks.withPlain(1);
        desk.transformer(2, 5, 0, true);
        check.same("swap", Desks.swapDraft(desk, 0), 10);
        desk.remove(0);
        desk.transformer(2, 0, 0, false);
        desk.set(3, 5);
        check.same("FLAGS are put right", Desks.swapDraft(desk, 0), 0);
    }

    @Says(promise = Says.TERMS, value = "They are treated one after the other, in the order in which they came, and tested")
    static void copyOfATreatedOneIsTreatedAgain(Check check) {
        HotEditions desk = new HotEditions();
        desk.transformer(1, 10, 0, false);
        desk.transformer(1, 100, 0, true);
        Desks.loadPlain(desk, 0, HotEditions.NONE, 1);
        desk.copy(0);
        Desks.swapDraft(desk, 0);
        check.same("run", Desks.run(desk, 0, 0, 10), 221);
    }

    private static void oneOfThreeIsBroken(Check check, int broken) {
        HotEditions desk = Desks.withPlain(3);
        for (int c = 0; c < 3; c++) {
            if (c == broken) {
                queueBroken(desk, c);
            } else {
                Desks.queuePlain(desk, c, 50);
            }
        }
        check.same("swap", desk.swap(), 16 * broken + 12);
        for (int c = 0; c < 3; c++) {
            check.same("edition", desk.edition(c), 1);
            check.same("code", Desks.run(desk, 0, c, 10), c);
            check.same("repeat", desk.repeat(c), 0);
            check.same("original", Desks.run(desk, 0, c, 10), c);
        }
    }

    @Says(promise = Says.TERMS, value = "Else nothing changes")
    static void firstIsBroken(Check check) {
        oneOfThreeIsBroken(check, 0);
    }

    @Says(promise = Says.TERMS, value = "Else nothing changes")
    static void secondIsBroken(Check check) {
        oneOfThreeIsBroken(check, 1);
    }

    @Says(promise = Says.TERMS, value = "Else nothing changes")
    static void lastIsBroken(Check check) {
        oneOfThreeIsBroken(check, 2);
    }

    @Says(promise = Says.TERMS, value = "Else nothing changes")
    static void brokenSwapOnABusyDesk(Check check) {
        HotEditions plain = Desks.busy();
        plain.swap();
        HotEditions swapping = Desks.busy();
        swapping.swap();
        swapping.queue(0);
        check.same("swap", swapping.swap(), 5);
        check.same("all that can be seen", Shown.of(swapping), Shown.of(plain));
    }

    @Says(promise = Says.TERMS, value = "each class gets a new current edition, the next number")
    static void nextNumberAfterManySwaps(Check check) {
        HotEditions desk = Desks.withPlain(2);
        for (int e = 2; e <= 40; e++) {
            Desks.queuePlain(desk, 0, e);
            check.same("swap", desk.swap(), 0);
            check.same("edition", desk.edition(0), e);
        }
        check.same("the other class", desk.edition(1), 1);
        check.same("run", Desks.run(desk, 0, 0, 10), 40);
    }

    @Says(promise = Says.TERMS, value = "each class gets a new current edition, the next number")
    static void brokenSwapTakesNoNumber(Check check) {
        HotEditions desk = Desks.withPlain(1);
        queueBroken(desk, 0);
        desk.swap();
        Desks.queuePlain(desk, 0, 7);
        desk.swap();
        check.same("edition", desk.edition(0), 2);
    }

    @Says(promise = Says.TERMS, value = "and its original becomes the original form")
    static void swapSetsTheOriginal(Check check) {
        HotEditions desk = Desks.withPlain(1);
        desk.transformer(1, 10, 0, false);
        desk.transformer(1, 100, 0, true);
        Desks.queuePlain(desk, 0, 1);
        desk.swap();
        check.same("treated", Desks.run(desk, 0, 0, 10), 111);
        desk.remove(0);
        desk.remove(1);
        check.same("repeat", desk.repeat(0), 0);
        check.same("original", Desks.run(desk, 0, 0, 10), 11);
    }

    @Says(promise = Says.TERMS, value = "The batch is empty afterwards")
    static void batchIsEmptyBehindASwap(Check check) {
        HotEditions desk = Desks.withPlain(1);
        Desks.queuePlain(desk, 0, 5);
        desk.swap();
        check.same("swap again", desk.swap(), 0);
        check.same("edition", desk.edition(0), 2);
        check.yes("queue", desk.queue(0));
    }

    @Says(promise = Says.TERMS, value = "The batch is empty afterwards")
    static void batchIsEmptyBehindABrokenSwap(Check check) {
        HotEditions desk = Desks.withPlain(3);
        Desks.queuePlain(desk, 0, 5);
        queueBroken(desk, 1);
        Desks.queuePlain(desk, 2, 5);
        desk.swap();
        check.same("swap again", desk.swap(), 0);
        check.same("edition", desk.edition(0), 1);
        for (int c = 0; c < 3; c++) {
            check.yes("queue", Desks.queuePlain(desk, c, 6));
        }
        check.same("swap", desk.swap(), 0);
    }

    @Says(promise = 14, value = "Swaps the batch")
    static void swapLeavesTheDraft(Check check) {
        HotEditions desk = Desks.withPlain(1);
        Desks.queuePlain(desk, 0, 5);
        desk.swap();
        check.yes("the method stays chosen", desk.code(0, 100, 0));
        Desks.swapDraft(desk, 0);
        check.same("run", Desks.run(desk, 0, 0, 10), 105);
    }

    @Says(promise = 14, value = "Swaps the batch")
    static void loadAndRepeatLeaveTheBatch(Check check) {
        HotEditions desk = Desks.withPlain(2);
        Desks.queuePlain(desk, 0, 40);
        Desks.queuePlain(desk, 1, 41);
        check.same("repeat", desk.repeat(0), 0);
        check.same("load", Desks.loadPlain(desk, 2, HotEditions.NONE, 2), 0);
        check.same("swap", desk.swap(), 0);
        check.same("edition behind repeat", desk.edition(0), 3);
        check.same("run", Desks.run(desk, 0, 0, 10), 40);
        check.same("run", Desks.run(desk, 0, 1, 10), 41);
    }
}
