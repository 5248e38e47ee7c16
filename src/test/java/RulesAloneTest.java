import java.util.function.Consumer;

/** The rules 1 to 4, which load and swap both ask. */
final class RulesAloneTest {
    private static final int OWN = 2;

    public static void main(String[] args) {
        Cases.run(RulesAloneTest.class);
    }

    /** Class 0 and, above which 0 is, class 1, with a method 10 each. */
    private static HotEditions withTwo() {
        HotEditions desk = new HotEditions();
        Desks.loadPlain(desk, 0, HotEditions.NONE, 0);
        Desks.loadPlain(desk, 1, 0, 0);
        return desk;
    }

    private static int loaded(Consumer<HotEditions> written) {
        HotEditions desk = withTwo();
        desk.blank();
        desk.set(1, OWN);
        written.accept(desk);
        return desk.load();
    }

    /** Class 2 is a blank one that is loaded: rules behind 4 may be broken too. */
    private static int swapped(Consumer<HotEditions> written) {
        HotEditions desk = withTwo();
        desk.blank();
        desk.set(1, OWN);
        desk.load();
        written.accept(desk);
        return Desks.swapDraft(desk, OWN) % 16;
    }

    private static void broken(Check check, int rule, Consumer<HotEditions> written) {
        check.same("load", loaded(written), rule);
        check.same("swap", swapped(written), rule);
    }

    private static void kept(Check check, Consumer<HotEditions> written) {
        check.same("load", loaded(written), 0);
        int answer = swapped(written);
        check.yes("swap, " + answer, answer == 0 || answer > 4);
    }

    @Says(promise = Says.TERMS, value = "1 FORMAT is not 1 .. 9")
    static void formatTooSmall(Check check) {
        broken(check, 1, desk -> desk.set(0, 0));
    }

    @Says(promise = Says.TERMS, value = "1 FORMAT is not 1 .. 9")
    static void formatLeast(Check check) {
        kept(check, desk -> desk.set(0, 1));
    }

    @Says(promise = Says.TERMS, value = "1 FORMAT is not 1 .. 9")
    static void formatGreatest(Check check) {
        kept(check, desk -> desk.set(0, 9));
    }

    @Says(promise = Says.TERMS, value = "1 FORMAT is not 1 .. 9")
    static void formatTooLarge(Check check) {
        broken(check, 1, desk -> desk.set(0, 10));
    }

    @Says(promise = Says.TERMS, value = "1 FORMAT is not 1 .. 9")
    static void formatFarOff(Check check) {
        for (int format : Desks.far()) {
            broken(check, 1, desk -> desk.set(0, format));
        }
    }

    private static void implementAll(HotEditions desk, int first, int second, int third) {
        desk.implement(first);
        desk.implement(second);
        desk.implement(third);
    }

    @Says(promise = Says.TERMS, value = "2 Two interfaces are equal")
    static void equalInterfaces(Check check) {
        broken(check, 2, desk -> implementAll(desk, 7, 7, 8));
        broken(check, 2, desk -> implementAll(desk, 7, 8, 7));
        broken(check, 2, desk -> implementAll(desk, 8, 7, 7));
    }

    @Says(promise = Says.TERMS, value = "2 Two interfaces are equal")
    static void equalInterfacesOfTwo(Check check) {
        broken(check, 2, desk -> {
            desk.implement(-1);
            desk.implement(-1);
        });
    }

    @Says(promise = Says.TERMS, value = "2 Two interfaces are equal")
    static void threeUnlikeInterfaces(Check check) {
        kept(check, desk -> implementAll(desk, 7, 8, 9));
    }

    @Says(promise = Says.TERMS, value = "2 Two interfaces are equal")
    static void noInterfaceAndOne(Check check) {
        kept(check, desk -> { });
        kept(check, desk -> desk.implement(0));
    }

    /** Four fields (or methods) of which two have one name and nothing else in common. */
    private static void writeNames(boolean fields, HotEditions desk, int one, int other) {
        for (int i = 0; i < 4; i++) {
            int name = 50 + (i == other ? one : i);
            if (fields) {
                desk.field(name, i, i);
            } else {
                desk.method(name, i);
            }
        }
    }

    private static void everyPairOfOneName(Check check, boolean fields) {
        for (int one = 0; one < 4; one++) {
            for (int other = one + 1; other < 4; other++) {
                int first = one;
                int second = other;
                broken(check, 2, desk -> writeNames(fields, desk, first, second));
            }
        }
    }

    @Says(promise = Says.TERMS, value = "two fields have one name")
    static void fieldsOfOneName(Check check) {
        everyPairOfOneName(check, true);
    }

    @Says(promise = Says.TERMS, value = "two fields have one name")
    static void fieldsThatHaveOnlyTheNameUnlike(Check check) {
        kept(check, desk -> {
            for (int name = 0; name < 4; name++) {
                desk.field(name, 6, 6);
            }
        });
    }

    @Says(promise = Says.TERMS, value = "two methods have one name")
    static void methodsOfOneName(Check check) {
        everyPairOfOneName(check, false);
    }

    @Says(promise = Says.TERMS, value = "two methods have one name")
    static void methodsThatHaveOnlyTheNameUnlike(Check check) {
        kept(check, desk -> {
            for (int name = 0; name < 4; name++) {
                desk.method(name, 6);
            }
        });
    }

    @Says(promise = Says.TERMS, value = "2 Two interfaces are equal, two fields have one name, two methods have one name")
    static void oneNumberForAnInterfaceAFieldAndAMethod(Check check) {
        kept(check, desk -> {
            desk.implement(1);
            desk.field(1, 1, 1);
            desk.method(1, 1);
        });
    }

    private static void badOp(Check check, int op) {
        broken(check, 2, desk -> {
            desk.method(10, 0);
            desk.code(op, OWN, 10);
        });
    }

    @Says(promise = Says.TERMS, value = "or an instruction has an op other than 0 and 1")
    static void opTooLarge(Check check) {
        badOp(check, 2);
    }

    @Says(promise = Says.TERMS, value = "or an instruction has an op other than 0 and 1")
    static void opTooSmall(Check check) {
        badOp(check, -1);
    }

    @Says(promise = Says.TERMS, value = "or an instruction has an op other than 0 and 1")
    static void opFarOff(Check check) {
        for (int op : Desks.far()) {
            badOp(check, op);
        }
    }

    @Says(promise = Says.TERMS, value = "or an instruction has an op other than 0 and 1")
    static void opsZeroAndOne(Check check) {
        kept(check, desk -> {
            desk.method(10, 0);
            desk.code(0, OWN, 10);
            desk.code(1, OWN, 10);
        });
    }

    @Says(promise = Says.TERMS, value = "or an instruction has an op other than 0 and 1")
    static void badOpAtTheVeryEnd(Check check) {
        broken(check, 2, desk -> {
            for (int m = 10; m < 14; m++) {
                desk.method(m, 0);
            }
            for (int i = 0; i < 5; i++) {
                desk.code(0, 0, 0);
            }
            desk.code(2, 0, 0);
        });
    }

    @Says(promise = Says.TERMS, value = "SUPER itself counts")
    static void superIsTheName(Check check) {
        broken(check, 3, desk -> desk.set(2, OWN));
    }

    @Says(promise = Says.TERMS, value = "SUPER itself counts")
    static void superIsTheNameThatIsNoClass(Check check) {
        for (int name : new int[] {6, -2, Integer.MAX_VALUE, Integer.MIN_VALUE}) {
            broken(check, 3, desk -> {
                desk.set(1, name);
                desk.set(2, name);
            });
        }
    }

    @Says(promise = Says.TERMS, value = "NONE as the number -1")
    static void nameOfMinusOneIsMetAtOnce(Check check) {
        broken(check, 3, desk -> {
            desk.set(1, -1);
            desk.set(2, HotEditions.NONE);
        });
    }

    @Says(promise = Says.TERMS, value = "NONE as the number -1")
    static void nameOfMinusOneIsMetAtTheTop(Check check) {
        broken(check, 3, desk -> {
            desk.set(1, -1);
            desk.set(2, 1);
        });
    }

    @Says(promise = Says.TERMS, value = "3 From d's SUPER, and on from each loaded class to the SUPER of its current edition")
    static void nameIsMetAboveTheSuper(Check check) {
        broken(check, 3, desk -> {
            desk.set(1, 0);
            desk.set(2, 1);
        });
    }

    @Says(promise = Says.TERMS, value = "3 From d's SUPER, and on from each loaded class to the SUPER of its current edition")
    static void nameIsNotMet(Check check) {
        kept(check, desk -> desk.set(2, 1));
        kept(check, desk -> desk.set(2, 0));
    }

    /** Each class stands above the next one. */
    private static HotEditions withSixUps() {
        HotEditions desk = new HotEditions();
        for (int c = 0; c < 6; c++) {
            Desks.loadPlain(desk, c, c - 1, c);
        }
        return desk;
    }

    @Says(promise = Says.TERMS, value = "3 From d's SUPER, and on from each loaded class to the SUPER of its current edition")
    static void longestWayUp(Check check) {
        HotEditions desk = withSixUps();
        check.same("the last class is met", Desks.loadPlain(desk, 0, 5, 0), 3);
        check.same("NONE is met behind it", Desks.loadPlain(desk, -1, 5, 0), 3);
        check.same("not met", Desks.loadPlain(desk, 6, 5, 0), 5);
        desk.copy(0);
        desk.set(2, 5);
        check.same("swap", Desks.swapDraft(desk, 0), 3);
    }

    @Says(promise = Says.TERMS, value = "This ends at a number that is no loaded class")
    static void wayUpEndsWhereNothingIsLoaded(Check check) {
        broken(check, 4, desk -> {
            desk.set(1, -1);
            desk.set(2, 5);
        });
        broken(check, 4, desk -> {
            desk.set(1, 0);
            desk.set(2, 6);
        });
    }

    private static void noSuchSuper(Check check, int above) {
        broken(check, 4, desk -> desk.set(2, above));
    }

    @Says(promise = Says.TERMS, value = "4 SUPER is neither NONE nor a loaded class")
    static void superIsNotLoaded(Check check) {
        noSuchSuper(check, 3);
    }

    @Says(promise = Says.TERMS, value = "4 SUPER is neither NONE nor a loaded class")
    static void superTooLarge(Check check) {
        noSuchSuper(check, 6);
    }

    @Says(promise = Says.TERMS, value = "4 SUPER is neither NONE nor a loaded class")
    static void superTooSmall(Check check) {
        noSuchSuper(check, -2);
    }

    @Says(promise = Says.TERMS, value = "4 SUPER is neither NONE nor a loaded class")
    static void superFarOff(Check check) {
        for (int above : Desks.far()) {
            noSuchSuper(check, above);
        }
    }

    @Says(promise = Says.TERMS, value = "4 SUPER is neither NONE nor a loaded class")
    static void superNone(Check check) {
        kept(check, desk -> desk.set(2, HotEditions.NONE));
    }

    /** Methods 20 and 21, of which the second makes the call. */
    private static void writeCall(HotEditions desk, int a, int b) {
        desk.method(20, 0);
        desk.method(21, 0);
        desk.code(0, 99, 99);
        desk.code(1, a, b);
    }

    private static void noSuchCall(Check check, int a, int b) {
        broken(check, 4, desk -> writeCall(desk, a, b));
    }

    @Says(promise = Says.TERMS, value = "the operand a is neither d's NAME nor a loaded class")
    static void calledClassIsNotLoaded(Check check) {
        noSuchCall(check, 3, 10);
    }

    @Says(promise = Says.TERMS, value = "the operand a is neither d's NAME nor a loaded class")
    static void calledClassTooLarge(Check check) {
        noSuchCall(check, 6, 10);
    }

    @Says(promise = Says.TERMS, value = "the operand a is neither d's NAME nor a loaded class")
    static void calledClassTooSmall(Check check) {
        noSuchCall(check, -1, 10);
    }

    @Says(promise = Says.TERMS, value = "the operand a is neither d's NAME nor a loaded class")
    static void calledClassFarOff(Check check) {
        for (int a : Desks.far()) {
            noSuchCall(check, a, 10);
        }
    }

    @Says(promise = Says.TERMS, value = "for an instruction of op 1")
    static void operandsOfOpZeroAreFree(Check check) {
        kept(check, desk -> {
            desk.method(20, 0);
            desk.code(0, 3, 99);
            desk.code(0, -1, 99);
        });
    }

    @Says(promise = Says.TERMS, value = "or no method is named b in d (if a is d's NAME)")
    static void ownMethodThatIsNotThere(Check check) {
        noSuchCall(check, OWN, 10);
        noSuchCall(check, OWN, 0);
    }

    @Says(promise = Says.TERMS, value = "or no method is named b in d (if a is d's NAME)")
    static void ownMethodThatIsThere(Check check) {
        kept(check, desk -> writeCall(desk, OWN, 20));
        kept(check, desk -> writeCall(desk, OWN, 21));
    }

    @Says(promise = Says.TERMS, value = "or no method is named b in d (if a is d's NAME)")
    static void ownMethodThatComesLater(Check check) {
        kept(check, desk -> {
            desk.method(20, 0);
            desk.code(1, OWN, 21);
            desk.method(21, 0);
        });
    }

    @Says(promise = Says.TERMS, value = "or no method is named b in d (if a is d's NAME)")
    static void ownNameThatIsALoadedClassOfOtherMethods(Check check) {
        HotEditions desk = withTwo();
        desk.blank();
        writeCall(desk, 0, 10);
        check.same("method 10 of class 0, that d lacks", desk.load(), 4);
        desk.blank();
        writeCall(desk, 0, 20);
        check.same("method 20 of d, that class 0 lacks", desk.load(), 13);
    }

    @Says(promise = Says.TERMS, value = "or no method is named b in d (if a is d's NAME)")
    static void ownNameThatIsNoClass(Check check) {
        HotEditions desk = withTwo();
        desk.blank();
        desk.set(1, 7);
        writeCall(desk, 7, 20);
        check.same("load", desk.load(), 5);
        desk.code(1, 7, 10);
        check.same("load", desk.load(), 4);
    }

    @Says(promise = Says.TERMS, value = "or else in the current edition of class a")
    static void otherClassHasTheMethod(Check check) {
        kept(check, desk -> writeCall(desk, 0, 10));
        kept(check, desk -> writeCall(desk, 1, 10));
    }

    @Says(promise = Says.TERMS, value = "or else in the current edition of class a")
    static void otherClassLacksTheMethod(Check check) {
        noSuchCall(check, 0, 20);
        noSuchCall(check, 1, 11);
    }

    @Says(promise = Says.TERMS, value = "or else in the current edition of class a")
    static void targetOfASwapIsAnotherClassThanTheName(Check check) {
        HotEditions desk = withTwo();
        desk.blank();
        desk.set(1, 3);
        writeCall(desk, 0, 10);
        check.same("method 10 of class 0", Desks.swapDraft(desk, 0), 5);
        desk.code(1, 0, 20);
        check.same("method 20, that class 0 lacks", Desks.swapDraft(desk, 0), 4);
    }

    @Says(promise = Says.TERMS, value = "for an instruction of op 1")
    static void everyCallIsLookedAt(Check check) {
        for (int bad = 0; bad < 24; bad++) {
            int at = bad;
            broken(check, 4, desk -> {
                for (int i = 0; i < 24; i++) {
                    if (i % 6 == 0) {
                        desk.method(20 + i / 6, 0);
                    }
                    desk.code(1, 0, i == at ? 11 : 10);
                }
            });
        }
    }
}
