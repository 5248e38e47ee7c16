/** Promise 15: repeat makes an edition from the original. */
final class RepeatTest {
    public static void main(String[] args) {
        Cases.run(RepeatTest.class);
    }

    @Says(promise = 15, value = "Repeats class c: 0")
    static void repeatWithoutTransformers(Check check) {
        HotEditions desk = Desks.withPlain(6);
        for (int c = 0; c < 6; c++) {
            check.same("repeat", desk.repeat(c), 0);
            check.same("edition", desk.edition(c), 2);
            check.same("run", Desks.run(desk, 0, c, 10), c);
        }
    }

    @Says(promise = 15, value = "Repeats class c: 0")
    static void repeatOfAFullDefinition(Check check) {
        HotEditions desk = Desks.withFull();
        desk.transformer(1, 100, 0, true);
        check.same("repeat", desk.repeat(0), 0);
        for (int m = 10; m < 14; m++) {
            check.same("run", Desks.run(desk, 0, 0, m), 663);
        }
    }

    @Says(promise = 15, value = "Repeats class c: 0")
    static void repeatOfABlankDefinition(Check check) {
        HotEditions desk = new HotEditions();
        desk.load();
        check.same("repeat", desk.repeat(0), 0);
        check.same("edition", desk.edition(0), 2);
    }

    private static void refusedClass(Check check, int c) {
        HotEditions desk = Desks.withPlain(5);
        check.none("repeat", desk.repeat(c));
        for (int other = 0; other < 6; other++) {
            check.same("edition", desk.edition(other), other == 5 ? 0 : 1);
        }
    }

    @Says(promise = 15, value = "NONE (refused) if c is no loaded class")
    static void repeatOfAClassThatIsNotLoaded(Check check) {
        refusedClass(check, 5);
    }

    @Says(promise = 15, value = "NONE (refused) if c is no loaded class")
    static void repeatBelowTheClasses(Check check) {
        refusedClass(check, -1);
    }

    @Says(promise = 15, value = "NONE (refused) if c is no loaded class")
    static void repeatAboveTheClasses(Check check) {
        refusedClass(check, 6);
    }

    @Says(promise = 15, value = "NONE (refused) if c is no loaded class")
    static void repeatFarOff(Check check) {
        for (int c : Desks.far()) {
            refusedClass(check, c);
        }
    }

    /** A counter whose second method calls the first too, under one more transformer. */
    private static HotEditions counterUnder(int kind, int value) {
        HotEditions desk = new HotEditions();
        Desks.draftCounter(desk, 0);
        desk.code(1, 0, 10);
        desk.load();
        desk.transformer(kind, value, 0, true);
        return desk;
    }

    private static void brokenRepeat(Check check, int kind, int value, int rule) {
        HotEditions desk = counterUnder(kind, value);
        check.same("repeat", desk.repeat(0), rule);
        check.same("edition", desk.edition(0), 1);
        check.yes("the old name", desk.start(0, 0, 10));
        desk.remove(0);
        check.same("the original stays", desk.repeat(0), 0);
        check.same("the next number", desk.edition(0), 2);
    }

    @Says(promise = 15, value = "or the code of the rule that was broken")
    static void repeatBreaksRuleTwo(Check check) {
        brokenRepeat(check, 4, 11, 2);
    }

    @Says(promise = 15, value = "or the code of the rule that was broken")
    static void repeatBreaksRuleFour(Check check) {
        brokenRepeat(check, 4, 12, 4);
    }

    @Says(promise = 15, value = "or the code of the rule that was broken")
    static void repeatBreaksRuleTen(Check check) {
        brokenRepeat(check, 2, 6, 10);
    }

    @Says(promise = 15, value = "or the code of the rule that was broken")
    static void repeatBreaksRuleEight(Check check) {
        HotEditions desk = Desks.withPlain(6);
        desk.transformer(4, 12, 5, true);
        check.same("no class is in the answer", desk.repeat(5), 8);
        check.same("edition", desk.edition(5), 1);
    }

    @Says(promise = Says.TERMS, value = "that is tested")
    static void originalAloneMayBreakARule(Check check) {
        HotEditions desk = new HotEditions();
        desk.transformer(2, 6, 0, true);
        desk.transformer(4, 77, 1, true);
        desk.load();
        Desks.loadPlain(desk, 1, HotEditions.NONE, 1);
        check.same("with them", desk.repeat(0), 0);
        check.same("with them", desk.repeat(1), 0);
        desk.remove(0);
        desk.remove(1);
        check.same("FLAGS of the original", desk.repeat(0), 10);
        check.same("the name in the original", desk.repeat(1), 8);
        check.same("edition", desk.edition(0), 2);
        check.same("edition", desk.edition(1), 2);
    }

    @Says(promise = Says.TERMS, value = "the transformers that can repeat change a copy of its original, by their numbers")
    static void repeatStartsFromTheOriginal(Check check) {
        HotEditions desk = new HotEditions();
        desk.transformer(1, 10, 0, false);
        desk.transformer(1, 100, 0, true);
        Desks.loadPlain(desk, 0, HotEditions.NONE, 1);
        for (int e = 2; e < 6; e++) {
            check.same("repeat", desk.repeat(0), 0);
            check.same("run", Desks.run(desk, 0, 0, 10), 111);
        }
    }

    @Says(promise = Says.TERMS, value = "the transformers that can repeat change a copy of its original, by their numbers")
    static void thoseThatCannotRepeatAreLeftOut(Check check) {
        HotEditions desk = Desks.withPlain(1);
        desk.transformer(1, 10, 0, false);
        desk.transformer(1, 10, HotEditions.NONE, false);
        check.same("repeat", desk.repeat(0), 0);
        check.same("run", Desks.run(desk, 0, 0, 10), 0);
    }

    @Says(promise = Says.TERMS, value = "the transformers that can repeat change a copy of its original, by their numbers")
    static void thoseForThisClassAndForEveryClass(Check check) {
        HotEditions desk = Desks.withPlain(2);
        desk.transformer(1, 10, 0, true);
        desk.transformer(1, 100, 1, true);
        desk.transformer(1, 1000, HotEditions.NONE, true);
        check.same("repeat", desk.repeat(1), 0);
        check.same("run", Desks.run(desk, 0, 1, 10), 1101);
        check.same("the other class", Desks.run(desk, 0, 0, 10), 0);
        check.same("its edition", desk.edition(0), 1);
    }

    @Says(promise = Says.TERMS, value = "the transformers that can repeat change a copy of its original, by their numbers")
    static void repeatGoesByTheNumbers(Check check) {
        HotEditions desk = Desks.withCounter();
        desk.transformer(4, 10, 0, true);
        desk.transformer(4, 77, 0, true);
        check.same("77 comes last", desk.repeat(0), 8);
        desk.remove(0);
        desk.transformer(4, 77, 0, true);
        desk.remove(1);
        desk.transformer(4, 10, 0, true);
        check.same("10 comes last", desk.repeat(0), 0);
    }

    @Says(promise = Says.TERMS, value = "if it keeps all rules it is the new current edition")
    static void newCallsSeeTheRepeatedCode(Check check) {
        HotEditions desk = Desks.withPlain(1);
        desk.start(0, 0, 10);
        desk.transformer(1, 7, 0, true);
        check.same("repeat", desk.repeat(0), 0);
        check.same("edition", desk.edition(0), 2);
        check.same("a new call", Desks.run(desk, 1, 0, 10), 7);
        Desks.finish(desk, 0);
        check.same("the call that ran", desk.result(0), 0);
        desk.copy(0);
        desk.set(1, 1);
        desk.load();
        check.same("a copy has it too", Desks.run(desk, 1, 1, 10), 7);
    }

    @Says(promise = Says.TERMS, value = "It also has an ORIGINAL, a definition")
    static void everyClassHasItsOriginal(Check check) {
        HotEditions desk = new HotEditions();
        desk.transformer(1, 100, HotEditions.NONE, true);
        for (int c = 0; c < 6; c++) {
            Desks.loadPlain(desk, c, HotEditions.NONE, c);
        }
        desk.remove(0);
        for (int c = 0; c < 6; c++) {
            check.same("edition 1", Desks.run(desk, 0, c, 10), 100 + c);
            desk.repeat(c);
            check.same("edition 2", Desks.run(desk, 0, c, 10), c);
        }
    }

    @Says(promise = Says.TERMS, value = "the original stays")
    static void originalStaysBehindRepeat(Check check) {
        HotEditions desk = Desks.withPlain(1);
        desk.transformer(1, 7, 0, true);
        desk.repeat(0);
        desk.repeat(0);
        check.same("once and not twice", Desks.run(desk, 0, 0, 10), 7);
        desk.remove(0);
        desk.repeat(0);
        check.same("as it was", Desks.run(desk, 0, 0, 10), 0);
    }

    @Says(promise = 15, value = "Repeats class c")
    static void repeatLeavesTheDraft(Check check) {
        HotEditions desk = Desks.withPlain(2);
        desk.repeat(0);
        check.yes("the method stays chosen", desk.code(0, 100, 0));
        check.same("swap", Desks.swapDraft(desk, 1), 0);
        check.same("run", Desks.run(desk, 0, 1, 10), 101);
    }
}
