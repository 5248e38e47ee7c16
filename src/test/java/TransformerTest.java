/** Promises 11 and 12: transformers come and go; and what each kind does. */
final class TransformerTest {
    public static void main(String[] args) {
        Cases.run(TransformerTest.class);
    }

    private static HotEditions withAllNumbers() {
        HotEditions desk = new HotEditions();
        for (int k = 0; k < 5; k++) {
            desk.transformer(0, 0, 0, false);
        }
        return desk;
    }

    @Says(promise = 11, value = "Puts a transformer on the least free number: the number")
    static void numbersInTheirOrder(Check check) {
        HotEditions desk = new HotEditions();
        for (int k = 0; k < 5; k++) {
            check.same("transformer", desk.transformer(k, 0, 0, k % 2 == 0), k);
        }
    }

    @Says(promise = 11, value = "Puts a transformer on the least free number: the number")
    static void leastOfSeveralFreeNumbers(Check check) {
        HotEditions desk = withAllNumbers();
        desk.remove(4);
        desk.remove(1);
        desk.remove(3);
        check.same("first", desk.transformer(0, 0, 0, false), 1);
        check.same("second", desk.transformer(0, 0, 0, false), 3);
        check.same("third", desk.transformer(0, 0, 0, false), 4);
    }

    @Says(promise = 11, value = "NONE (refused) if none is free")
    static void noneIsFree(Check check) {
        HotEditions desk = withAllNumbers();
        for (int kind = 0; kind <= 4; kind++) {
            check.none("transformer", desk.transformer(kind, 9, HotEditions.NONE, true));
        }
        desk.load();
        desk.blank();
        check.same("a refused one changes nothing", Desks.swapDraft(desk, 0), 0);
    }

    @Says(promise = Says.TERMS, value = "TRANSFORMERS are 0 .. 4")
    static void freeAgainAfterBeingFull(Check check) {
        HotEditions desk = withAllNumbers();
        desk.remove(4);
        check.same("the last number", desk.transformer(0, 0, 0, false), 4);
        check.none("a sixth", desk.transformer(0, 0, 0, false));
    }

    private static void refusedKind(Check check, int kind) {
        HotEditions desk = new HotEditions();
        check.none("transformer", desk.transformer(kind, 5, HotEditions.NONE, false));
        check.no("no number was taken", desk.remove(0));
        check.same("the next", desk.transformer(0, 0, 0, false), 0);
    }

    @Says(promise = 11, value = "or kind is not 0 .. 4")
    static void kindTooSmall(Check check) {
        refusedKind(check, -1);
    }

    @Says(promise = 11, value = "or kind is not 0 .. 4")
    static void kindTooLarge(Check check) {
        refusedKind(check, 5);
    }

    @Says(promise = 11, value = "or kind is not 0 .. 4")
    static void kindFarOff(Check check) {
        for (int kind : Desks.far()) {
            refusedKind(check, kind);
        }
    }

    @Says(promise = 11, value = "or kind is not 0 .. 4")
    static void kindLeastAndGreatest(Check check) {
        HotEditions desk = new HotEditions();
        check.same("kind 0", desk.transformer(0, 0, 0, false), 0);
        check.same("kind 4", desk.transformer(4, 0, 0, false), 1);
    }

    @Says(promise = 11, value = "or kind is not 0 .. 4")
    static void wrongKindWhileNoneIsFree(Check check) {
        check.none("transformer", withAllNumbers().transformer(5, 0, 0, false));
    }

    private static void onlyMeansEveryClass(Check check, int only) {
        HotEditions desk = new HotEditions();
        desk.transformer(1, 1000, only, false);
        for (int c = 0; c < 6; c++) {
            Desks.loadPlain(desk, c, HotEditions.NONE, 1);
            check.same("class " + c, Desks.run(desk, 0, c, 10), 1001);
        }
    }

    @Says(promise = 11, value = "Any only that is not 0 .. 5 means every class")
    static void onlyNone(Check check) {
        onlyMeansEveryClass(check, HotEditions.NONE);
    }

    @Says(promise = 11, value = "Any only that is not 0 .. 5 means every class")
    static void onlyTooLarge(Check check) {
        onlyMeansEveryClass(check, 6);
    }

    @Says(promise = 11, value = "Any only that is not 0 .. 5 means every class")
    static void onlyTooSmall(Check check) {
        onlyMeansEveryClass(check, -2);
    }

    @Says(promise = 11, value = "Any only that is not 0 .. 5 means every class")
    static void onlyFarOff(Check check) {
        for (int only : Desks.far()) {
            onlyMeansEveryClass(check, only);
        }
    }

    @Says(promise = Says.TERMS, value = "a class that it is for, or NONE (it is for every class)")
    static void onlyOneClass(Check check) {
        for (int only = 0; only < 6; only++) {
            HotEditions desk = new HotEditions();
            desk.transformer(1, 1000, only, only % 2 == 0);
            for (int c = 0; c < 6; c++) {
                Desks.loadPlain(desk, c, HotEditions.NONE, 1);
                check.same("only " + only, Desks.run(desk, 0, c, 10), c == only ? 1001 : 1);
            }
        }
    }

    @Says(promise = 12, value = "Number k is free again")
    static void removedNumberIsFree(Check check) {
        for (int k = 0; k < 5; k++) {
            HotEditions desk = withAllNumbers();
            check.yes("remove", desk.remove(k));
            check.same("transformer", desk.transformer(0, 0, 0, false), k);
        }
    }

    @Says(promise = 12, value = "Number k is free again")
    static void removedTransformerChangesNothingMore(Check check) {
        HotEditions desk = new HotEditions();
        desk.transformer(1, 100, HotEditions.NONE, false);
        desk.transformer(1, 1000, HotEditions.NONE, true);
        desk.remove(0);
        Desks.loadPlain(desk, 0, HotEditions.NONE, 1);
        check.same("the other stays", Desks.run(desk, 0, 0, 10), 1001);
        desk.remove(1);
        Desks.loadPlain(desk, 1, HotEditions.NONE, 1);
        check.same("none is left", Desks.run(desk, 0, 1, 10), 1);
    }

    @Says(promise = 12, value = "Number k is free again")
    static void numberTakenAnewHasNothingOfTheOld(Check check) {
        HotEditions desk = new HotEditions();
        desk.transformer(1, 100, 0, true);
        desk.remove(0);
        desk.transformer(1, 1000, HotEditions.NONE, false);
        Desks.loadPlain(desk, 1, HotEditions.NONE, 1);
        check.same("value and class", Desks.run(desk, 0, 1, 10), 1001);
        desk.remove(0);
        desk.repeat(1);
        check.same("it could not repeat", Desks.run(desk, 0, 1, 10), 1001);
    }

    @Says(promise = 12, value = "false (refused) if it is")
    static void removeOfAFreeNumber(Check check) {
        HotEditions desk = new HotEditions();
        check.no("never taken", desk.remove(0));
        desk.transformer(0, 0, 0, false);
        check.yes("taken", desk.remove(0));
        check.no("free again", desk.remove(0));
        check.no("the next one", desk.remove(1));
    }

    private static void refusedRemoval(Check check, int k) {
        HotEditions desk = withAllNumbers();
        check.no("remove", desk.remove(k));
        check.none("none became free", desk.transformer(0, 0, 0, false));
    }

    @Says(promise = 12, value = "or is not 0 .. 4")
    static void removeTooSmall(Check check) {
        refusedRemoval(check, -1);
    }

    @Says(promise = 12, value = "or is not 0 .. 4")
    static void removeTooLarge(Check check) {
        refusedRemoval(check, 5);
    }

    @Says(promise = 12, value = "or is not 0 .. 4")
    static void removeFarOff(Check check) {
        for (int k : Desks.far()) {
            refusedRemoval(check, k);
        }
    }

    /** A counter that one transformer has changed; none is there any more. */
    private static HotEditions counterBehind(int kind, int value) {
        HotEditions desk = new HotEditions();
        desk.transformer(kind, value, 0, false);
        Desks.draftCounter(desk, 0);
        desk.load();
        desk.remove(0);
        return desk;
    }

    @Says(promise = Says.TERMS, value = "0 not at all")
    static void kindZero(Check check) {
        for (int value : new int[] {0, 10, 11}) {
            HotEditions desk = counterBehind(0, value);
            check.same("code", Desks.run(desk, 0, 0, 10), 112);
            Desks.draftCounter(desk, 0);
            check.same("all the rest", Desks.swapDraft(desk, 0), 0);
        }
    }

    @Says(promise = Says.TERMS, value = "1 the operand a of every instruction of op 0 becomes VALUE more")
    static void kindOneRaisesEveryOpZero(Check check) {
        HotEditions desk = counterBehind(1, 1000);
        check.same("both additions of the first and that of the second",
                Desks.run(desk, 0, 0, 10), 3112);
        check.same("the second method", Desks.run(desk, 0, 0, 11), 1100);
    }

    @Says(promise = Says.TERMS, value = "1 the operand a of every instruction of op 0 becomes VALUE more")
    static void kindOneLeavesAllTheRest(Check check) {
        for (int value : new int[] {0, 10, 11}) {
            HotEditions desk = counterBehind(1, value);
            Desks.draftCounter(desk, 0);
            check.same("swap", Desks.swapDraft(desk, 0), 0);
        }
    }

    @Says(promise = Says.TERMS, value = "1 the operand a of every instruction of op 0 becomes VALUE more")
    static void kindOneLeavesOpOne(Check check) {
        HotEditions desk = new HotEditions();
        desk.transformer(1, 1, 0, false);
        desk.method(10, 0);
        desk.code(1, 0, 11);
        desk.method(11, 0);
        check.same("the call is still of class 0", desk.load(), 0);
        desk.start(0, 0, 10);
        desk.step(0, 1);
        check.same("frame", desk.frame(0, 1), 8);
    }

    @Says(promise = Says.TERMS, value = "1 the operand a of every instruction of op 0 becomes VALUE more")
    static void kindOneReachesTheVeryLastInstruction(Check check) {
        HotEditions desk = new HotEditions();
        desk.transformer(1, 100, 0, false);
        Desks.draftFull(desk, 0, 3);
        desk.load();
        for (int m = 10; m < 14; m++) {
            check.same("method " + m, Desks.run(desk, 0, 0, m), 63 + 600);
        }
    }

    @Says(promise = Says.TERMS, value = "1 the operand a of every instruction of op 0 becomes VALUE more")
    static void kindOneWithLessThanNothing(Check check) {
        check.same("-100", Desks.run(counterBehind(1, -100), 0, 0, 11), 0);
        check.same("0", Desks.run(counterBehind(1, 0), 0, 0, 11), 100);
    }

    private static void wraps(Check check, int operand, int value, int due) {
        HotEditions desk = new HotEditions();
        desk.transformer(1, value, 0, false);
        Desks.loadPlain(desk, 0, HotEditions.NONE, operand);
        check.same("run", Desks.run(desk, 0, 0, 10), due);
    }

    @Says(promise = Says.TERMS, value = "(it wraps)")
    static void kindOneWrapsUpwards(Check check) {
        wraps(check, Integer.MAX_VALUE, 1, Integer.MIN_VALUE);
        wraps(check, Integer.MAX_VALUE, Integer.MAX_VALUE, -2);
    }

    @Says(promise = Says.TERMS, value = "(it wraps)")
    static void kindOneWrapsDownwards(Check check) {
        wraps(check, Integer.MIN_VALUE, -1, Integer.MAX_VALUE);
        wraps(check, Integer.MIN_VALUE, Integer.MIN_VALUE, 0);
    }

    @Says(promise = Says.TERMS, value = "2 FLAGS becomes VALUE")
    static void kindTwo(Check check) {
        for (int value : new int[] {8, 10, 11, -1, Integer.MIN_VALUE}) {
            HotEditions desk = counterBehind(2, value);
            check.same("the code stays", Desks.run(desk, 0, 0, 10), 112);
            Desks.draftCounter(desk, 0);
            check.same("FLAGS 0", Desks.swapDraft(desk, 0), 10);
            desk.set(3, value);
            check.same("FLAGS of that value", Desks.swapDraft(desk, 0), 0);
        }
    }

    @Says(promise = Says.TERMS, value = "3 if a method is named VALUE, every method's code becomes empty")
    static void kindThreeEmptiesEveryCode(Check check) {
        for (int m = 10; m < 14; m++) {
            HotEditions desk = new HotEditions();
            desk.transformer(3, m, 0, false);
            Desks.draftFull(desk, 0, 3);
            check.same("load", desk.load(), 0);
            for (int other = 10; other < 14; other++) {
                desk.start(0, 0, other);
                check.same("its end alone is a step", desk.step(0, 100), 1);
            }
        }
    }

    @Says(promise = Says.TERMS, value = "3 if a method is named VALUE, every method's code becomes empty")
    static void kindThreeLeavesTheMethods(Check check) {
        HotEditions desk = counterBehind(3, 11);
        Desks.draftCounter(desk, 0);
        check.same("swap", Desks.swapDraft(desk, 0), 0);
    }

    @Says(promise = Says.TERMS, value = "3 if a method is named VALUE, every method's code becomes empty")
    static void kindThreeTakesBrokenCodeAway(Check check) {
        HotEditions desk = new HotEditions();
        desk.transformer(3, 10, 0, true);
        desk.method(10, 0);
        desk.code(9, 0, 0);
        desk.method(11, 0);
        desk.code(1, 4, 4);
        check.same("load", desk.load(), 0);
    }

    @Says(promise = Says.TERMS, value = "else not at all")
    static void kindThreeWithoutTheName(Check check) {
        for (int value : new int[] {12, 0, 1, -1}) {
            check.same("run", Desks.run(counterBehind(3, value), 0, 0, 10), 112);
        }
    }

    @Says(promise = Says.TERMS, value = "else not at all")
    static void kindThreeWithoutMethods(Check check) {
        HotEditions desk = new HotEditions();
        desk.transformer(3, 0, 0, false);
        check.same("load", desk.load(), 0);
        desk.blank();
        check.same("swap", Desks.swapDraft(desk, 0), 0);
    }

    @Says(promise = Says.TERMS, value = "4 the first method's name becomes VALUE")
    static void kindFour(Check check) {
        HotEditions desk = counterBehind(4, 77);
        check.same("the new name", Desks.run(desk, 0, 0, 77), 112);
        check.no("the old name", desk.start(0, 0, 10));
        check.same("the second method", Desks.run(desk, 0, 0, 11), 100);
    }

    @Says(promise = Says.TERMS, value = "4 the first method's name becomes VALUE")
    static void kindFourLeavesCallsOfTheOldName(Check check) {
        HotEditions desk = new HotEditions();
        desk.transformer(4, 77, 0, false);
        desk.method(10, 0);
        desk.code(1, 0, 10);
        check.same("load", desk.load(), 4);
    }

    @Says(promise = Says.TERMS, value = "4 the first method's name becomes VALUE")
    static void kindFourWithTheNameThatItHas(Check check) {
        HotEditions desk = counterBehind(4, 10);
        check.same("run", Desks.run(desk, 0, 0, 10), 112);
    }

    @Says(promise = Says.TERMS, value = "(not at all if there is no method)")
    static void kindFourWithoutMethods(Check check) {
        HotEditions desk = new HotEditions();
        desk.transformer(4, 77, 0, false);
        check.same("load", desk.load(), 0);
        check.no("start", desk.start(0, 0, 77));
        desk.blank();
        check.same("swap", Desks.swapDraft(desk, 0), 0);
    }

    @Says(promise = Says.TERMS, value = "changes a definition that is meant for class c (whatever NAME that has)")
    static void forTheClassThatItIsMeantFor(Check check) {
        HotEditions desk = Desks.withPlain(2);
        desk.transformer(4, 11, 1, false);
        desk.copy(0);
        desk.method(11, 0);
        check.same("meant for 1, NAME 0", Desks.swapDraft(desk, 1), 16 + 2);
        desk.copy(1);
        desk.method(11, 0);
        check.same("meant for 0, NAME 1", Desks.swapDraft(desk, 0), 5);
    }

    @Says(promise = Says.TERMS, value = "the transformers that can't repeat change it one after the other, by their numbers")
    static void orderOfThoseThatCannotRepeat(Check check) {
        check.same("renamed in time", orderOfTwo(4, false, 3, false), 0);
        check.same("renamed too late", orderOfTwo(3, false, 4, false), 5);
    }

    @Says(promise = Says.TERMS, value = "those that can repeat change it after that, by their numbers")
    static void orderOfThoseThatCanRepeat(Check check) {
        check.same("renamed in time", orderOfTwo(4, true, 3, true), 0);
        check.same("renamed too late", orderOfTwo(3, true, 4, true), 5);
    }

    @Says(promise = Says.TERMS, value = "those that can repeat change it after that, by their numbers")
    static void thoseThatCanRepeatComeLast(Check check) {
        check.same("3 with the lesser number comes last", orderOfTwo(3, true, 4, false), 0);
        check.same("4 with the lesser number comes last", orderOfTwo(4, true, 3, false), 5);
    }

    /** Kind 3 takes the code away only if kind 4 has given the method its name by then. */
    private static int orderOfTwo(int kind, boolean repeats, int nextKind, boolean nextRepeats) {
        HotEditions desk = new HotEditions();
        desk.transformer(kind, 77, 0, repeats);
        desk.transformer(nextKind, 77, 0, nextRepeats);
        Desks.loadPlain(desk, 0, HotEditions.NONE, 5);
        return Desks.run(desk, 0, 0, 77);
    }

    @Says(promise = Says.TERMS, value = "the transformers that can't repeat change it one after the other, by their numbers")
    static void orderIsByNumberAndNotByAge(Check check) {
        HotEditions desk = new HotEditions();
        desk.transformer(0, 0, 0, false);
        desk.transformer(3, 77, 0, false);
        desk.remove(0);
        check.same("the younger one's number", desk.transformer(4, 77, 0, false), 0);
        Desks.loadPlain(desk, 0, HotEditions.NONE, 5);
        check.same("it comes first", Desks.run(desk, 0, 0, 77), 0);
    }

    @Says(promise = Says.TERMS, value = "what it is then is the ORIGINAL form")
    static void originalFormIsWithoutThoseThatCanRepeat(Check check) {
        HotEditions desk = new HotEditions();
        desk.transformer(1, 100, 0, true);
        desk.transformer(1, 10, 0, false);
        Desks.loadPlain(desk, 0, HotEditions.NONE, 1);
        check.same("treated", Desks.run(desk, 0, 0, 10), 111);
        desk.remove(0);
        desk.repeat(0);
        check.same("original form", Desks.run(desk, 0, 0, 10), 11);
    }

    @Says(promise = Says.TERMS, value = "each number is free or has one")
    static void allFiveChangeADefinition(Check check) {
        HotEditions desk = new HotEditions();
        for (int k = 0; k < 5; k++) {
            desk.transformer(1, 1 << k, k == 2 ? 1 : 0, k % 2 == 1);
        }
        Desks.loadPlain(desk, 0, HotEditions.NONE, 0);
        check.same("all but the third, which is for class 1", Desks.run(desk, 0, 0, 10), 31 - 4);
    }
}
