import java.util.function.Consumer;

/** Promise 10: loading, and what the terms say of it. Its rules 1 to 4 are in RulesAloneTest. */
final class LoadTest {
    public static void main(String[] args) {
        Cases.run(LoadTest.class);
    }

    @Says(promise = 10, value = "Loads the draft: 0, or the code of what is broken")
    static void everyClassCanBeLoaded(Check check) {
        HotEditions desk = new HotEditions();
        for (int c = 0; c < 6; c++) {
            check.same("load", Desks.loadPlain(desk, c, c - 1, 100 + c), 0);
        }
        for (int c = 0; c < 6; c++) {
            check.same("run", Desks.run(desk, 0, c, 10), 100 + c);
        }
    }

    @Says(promise = 10, value = "Loads the draft: 0, or the code of what is broken")
    static void blankDraftCanBeLoaded(Check check) {
        HotEditions desk = new HotEditions();
        check.same("load", desk.load(), 0);
        check.same("edition", desk.edition(0), 1);
        check.no("it has no method", desk.start(0, 0, 0));
    }

    @Says(promise = 10, value = "Loads the draft: 0, or the code of what is broken")
    static void fullDraftCanBeLoaded(Check check) {
        HotEditions desk = new HotEditions();
        Desks.draftFull(desk, 5, 3);
        check.same("load", desk.load(), 0);
        for (int m = 10; m < 14; m++) {
            check.same("run", Desks.run(desk, 0, 5, m), 63);
        }
    }

    /** The draft of a busy desk could be loaded as class 5 if it were not broken. */
    private static void brokenLoad(Check check, int code, Consumer<HotEditions> breaking) {
        HotEditions plain = Desks.busy();
        breaking.accept(plain);
        HotEditions loading = Desks.busy();
        breaking.accept(loading);
        check.same("load", loading.load(), code);
        check.same("all that can be seen", Shown.of(loading), Shown.of(plain));
    }

    @Says(promise = 10, value = "or the code of what is broken")
    static void brokenByRuleOne(Check check) {
        brokenLoad(check, 1, desk -> desk.set(0, 0));
    }

    @Says(promise = 10, value = "or the code of what is broken")
    static void brokenByRuleTwo(Check check) {
        brokenLoad(check, 2, desk -> desk.implement(4));
    }

    @Says(promise = 10, value = "or the code of what is broken")
    static void brokenByRuleThree(Check check) {
        brokenLoad(check, 3, desk -> desk.set(2, 5));
    }

    @Says(promise = 10, value = "or the code of what is broken")
    static void brokenByRuleFour(Check check) {
        brokenLoad(check, 4, desk -> desk.set(2, 4));
    }

    @Says(promise = 10, value = "or the code of what is broken")
    static void brokenByItsName(Check check) {
        brokenLoad(check, 5, desk -> {
            desk.set(1, 6);
            desk.choose(0);
        });
    }

    @Says(promise = 10, value = "or the code of what is broken")
    static void brokenByALoadedClass(Check check) {
        brokenLoad(check, 13, desk -> {
            desk.set(1, 3);
            desk.choose(0);
        });
    }

    private static void nameIsNoClass(Check check, int name) {
        HotEditions desk = Desks.withPlain(1);
        check.same("load as " + name, Desks.loadPlain(desk, name, 0, 1), 5);
        for (int c = 1; c < 6; c++) {
            check.same("edition " + c, desk.edition(c), 0);
        }
    }

    @Says(promise = Says.TERMS, value = "then 5 is the answer if NAME is not 0 .. 5")
    static void nameTooLarge(Check check) {
        nameIsNoClass(check, 6);
    }

    @Says(promise = Says.TERMS, value = "then 5 is the answer if NAME is not 0 .. 5")
    static void nameTooSmall(Check check) {
        nameIsNoClass(check, -2);
    }

    @Says(promise = Says.TERMS, value = "then 5 is the answer if NAME is not 0 .. 5")
    static void nameFarOff(Check check) {
        for (int name : Desks.far()) {
            nameIsNoClass(check, name);
        }
    }

    @Says(promise = Says.TERMS, value = "then tested by the rules 1 to 4")
    static void nameOfNoneNeverComesAsFarAsFive(Check check) {
        HotEditions desk = Desks.withPlain(1);
        check.same("SUPER NONE", Desks.loadPlain(desk, -1, HotEditions.NONE, 0), 3);
        check.same("SUPER above which NONE is", Desks.loadPlain(desk, -1, 0, 0), 3);
        check.same("SUPER that is not loaded", Desks.loadPlain(desk, -1, 1, 0), 4);
    }

    @Says(promise = Says.TERMS, value = "then 13 if that class is loaded")
    static void loadedAlready(Check check) {
        HotEditions desk = Desks.withPlain(6);
        for (int c = 0; c < 6; c++) {
            check.same("load", Desks.loadPlain(desk, c, HotEditions.NONE, 77), 13);
            check.same("edition stays", desk.edition(c), 1);
            check.same("code stays", Desks.run(desk, 0, c, 10), c);
            check.same("repeat", desk.repeat(c), 0);
            check.same("original stays", Desks.run(desk, 0, c, 10), c);
        }
    }

    @Says(promise = Says.TERMS, value = "then 13 if that class is loaded")
    static void loadOfTheSameDraftTwice(Check check) {
        HotEditions desk = new HotEditions();
        check.same("first", desk.load(), 0);
        check.same("second", desk.load(), 13);
    }

    @Says(promise = Says.TERMS, value = "and then tested by the rules 1 to 4")
    static void laterRulesAreNotAsked(Check check) {
        HotEditions desk = Desks.withCounter();
        desk.blank();
        desk.set(2, HotEditions.NONE);
        desk.set(3, 9);
        desk.set(4, 9);
        check.same("another definition of class 0", desk.load(), 13);
    }

    @Says(promise = Says.TERMS, value = "The code of the first rule that is broken is the answer")
    static void answersInTheirOrder(Check check) {
        HotEditions desk = Desks.withPlain(1);
        desk.blank();
        desk.set(0, 0);
        desk.set(1, 7);
        desk.set(2, 7);
        desk.implement(1);
        desk.implement(1);
        desk.method(1, 0);
        desk.code(1, 4, 4);
        check.same("1 before 2", desk.load(), 1);
        desk.set(0, 9);
        check.same("2 before 3", desk.load(), 2);
        desk.blank();
        desk.set(1, 7);
        desk.set(2, 7);
        desk.method(1, 0);
        desk.code(1, 4, 4);
        check.same("3 before 4", desk.load(), 3);
        desk.set(2, 0);
        check.same("4 before 5", desk.load(), 4);
        desk.choose(0);
        check.same("5", desk.load(), 5);
        desk.set(1, 0);
        check.same("3 before 13", desk.load(), 3);
        desk.set(2, 5);
        check.same("4 before 13", desk.load(), 4);
    }

    @Says(promise = Says.TERMS, value = "a copy of the draft is treated for class NAME")
    static void treatedBeforeItIsTested(Check check) {
        HotEditions desk = new HotEditions();
        desk.transformer(4, 11, 0, true);
        desk.method(10, 0);
        desk.method(11, 0);
        check.same("two methods have one name", desk.load(), 2);
        desk.blank();
        desk.method(10, 0);
        desk.code(1, 0, 11);
        check.same("the name is there that is called", desk.load(), 0);
    }

    @Says(promise = Says.TERMS, value = "a copy of the draft is treated for class NAME")
    static void treatedForItsNameAlone(Check check) {
        HotEditions desk = new HotEditions();
        desk.transformer(1, 100, 4, false);
        desk.transformer(1, 1000, 5, true);
        Desks.loadPlain(desk, 4, HotEditions.NONE, 1);
        Desks.loadPlain(desk, 5, HotEditions.NONE, 1);
        check.same("class 4", Desks.run(desk, 0, 4, 10), 101);
        check.same("class 5", Desks.run(desk, 0, 5, 10), 1001);
    }

    /** Two methods come to have one name if the transformer changes the draft. */
    private static int loadOfNoClass(int only, boolean repeats, int name) {
        HotEditions desk = new HotEditions();
        desk.transformer(4, 11, only, repeats);
        desk.set(1, name);
        desk.set(2, HotEditions.NONE);
        desk.method(10, 0);
        desk.method(11, 0);
        return desk.load();
    }

    @Says(promise = Says.TERMS, value = "if that is no class, those for every class alone change it")
    static void noClassMeetsThoseForEveryClass(Check check) {
        check.same("can't repeat", loadOfNoClass(HotEditions.NONE, false, 6), 2);
        check.same("can repeat", loadOfNoClass(HotEditions.NONE, true, 6), 2);
        check.same("NAME -1", loadOfNoClass(HotEditions.NONE, true, -1), 2);
        check.same("only is that number", loadOfNoClass(6, true, 6), 2);
        check.same("only is another number", loadOfNoClass(7, true, 6), 2);
    }

    @Says(promise = Says.TERMS, value = "if that is no class, those for every class alone change it")
    static void noClassMeetsNoneForOneClass(Check check) {
        for (int only = 0; only < 6; only++) {
            check.same("NAME 6", loadOfNoClass(only, false, 6), 5);
            check.same("NAME -2", loadOfNoClass(only, true, -2), 5);
        }
        check.same("NAME -1", loadOfNoClass(0, true, -1), 3);
    }

    @Says(promise = Says.TERMS, value = "A class is LOADED or not")
    static void onlyTheNamedClassIsLoaded(Check check) {
        for (int name = 0; name < 6; name++) {
            HotEditions desk = new HotEditions();
            Desks.loadPlain(desk, name, HotEditions.NONE, 1);
            for (int c = 0; c < 6; c++) {
                check.same("copy " + c, desk.copy(c), c == name);
                check.same("start " + c, desk.start(0, c, 10), c == name);
            }
        }
    }

    @Says(promise = Says.TERMS, value = "edition 1 has the treated definition")
    static void editionOneIsTreated(Check check) {
        HotEditions desk = new HotEditions();
        desk.transformer(1, 10, 0, false);
        desk.transformer(1, 100, 0, true);
        Desks.loadPlain(desk, 0, HotEditions.NONE, 1);
        check.same("edition", desk.edition(0), 1);
        check.same("run", Desks.run(desk, 0, 0, 10), 111);
    }

    @Says(promise = Says.TERMS, value = "and the original is the original form")
    static void originalOfALoadedClass(Check check) {
        HotEditions desk = new HotEditions();
        desk.transformer(1, 10, 0, false);
        desk.transformer(1, 100, 0, true);
        Desks.loadPlain(desk, 0, HotEditions.NONE, 1);
        desk.remove(0);
        desk.remove(1);
        check.same("repeat", desk.repeat(0), 0);
        check.same("run", Desks.run(desk, 0, 0, 10), 11);
    }

    @Says(promise = 10, value = "The draft stays as it is (with the method that is chosen")
    static void draftStaysBehindLoad(Check check) {
        HotEditions desk = new HotEditions();
        desk.transformer(1, 1000, HotEditions.NONE, false);
        desk.transformer(1, 1000, HotEditions.NONE, true);
        Desks.loadPlain(desk, 0, HotEditions.NONE, 1);
        check.yes("the method stays chosen", desk.code(0, 2, 0));
        desk.set(1, 1);
        check.same("load again", desk.load(), 0);
        check.same("the draft was not treated", Desks.run(desk, 0, 1, 10), 4003);
    }

    @Says(promise = 10, value = "The draft stays as it is (with the method that is chosen")
    static void noneStaysChosenBehindLoad(Check check) {
        HotEditions desk = Desks.withPlain(1);
        desk.copy(0);
        desk.set(1, 1);
        desk.load();
        check.no("code", desk.code(0, 2, 0));
    }

    @Says(promise = 10, value = "The draft stays as it is (with the method that is chosen")
    static void draftStaysBehindABrokenLoad(Check check) {
        HotEditions desk = new HotEditions();
        Desks.draftCounter(desk, 0);
        desk.set(0, 0);
        check.same("load", desk.load(), 1);
        desk.set(0, 1);
        check.yes("the method stays chosen", desk.code(0, 2, 0));
        check.same("load", desk.load(), 0);
        check.same("run", Desks.run(desk, 0, 0, 10), 114);
    }

    @Says(promise = Says.TERMS, value = "The DRAFT is the definition that is written")
    static void writingTheDraftLeavesTheLoadedClass(Check check) {
        HotEditions desk = Desks.withPlain(1);
        desk.code(0, 1000, 0);
        desk.set(3, 5);
        check.same("code", Desks.run(desk, 0, 0, 10), 0);
        check.same("original", desk.repeat(0), 0);
        check.same("code of the original", Desks.run(desk, 0, 0, 10), 0);
    }

    @Says(promise = 10, value = "so behind queue)")
    static void draftStaysBehindQueue(Check check) {
        HotEditions desk = Desks.withPlain(1);
        Desks.queuePlain(desk, 0, 7);
        check.yes("the method stays chosen", desk.code(0, 100, 0));
        desk.set(1, 1);
        check.same("load", desk.load(), 0);
        check.same("run", Desks.run(desk, 0, 1, 10), 107);
    }

    @Says(promise = 10, value = "so behind queue)")
    static void noneStaysChosenBehindQueue(Check check) {
        HotEditions desk = Desks.withPlain(1);
        desk.copy(0);
        desk.queue(0);
        check.no("code", desk.code(0, 2, 0));
    }
}
