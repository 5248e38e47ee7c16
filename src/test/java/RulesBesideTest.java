/** The rules 5 to 12, which hold a new definition beside that of the current edition. */
final class RulesBesideTest {
    private static final int OWN = 3;
    private static final int ANSWER = 16 * OWN;
    /** The lists of a counter. */
    private static final int[] INTERFACES = {4, 5};
    /** A name, a type and flags for each field. */
    private static final int[] FIELDS = {1, 2, 3, 2, 2, 0};
    /** A name and flags for each method. */
    private static final int[] METHODS = {10, 1, 11, 0};

    public static void main(String[] args) {
        Cases.run(RulesBesideTest.class);
    }

    /** Classes 1 and 3; 3 is a counter, and the draft is a copy of it. */
    private static HotEditions withCopy() {
        HotEditions desk = new HotEditions();
        Desks.loadPlain(desk, 1, HotEditions.NONE, 0);
        Desks.draftCounter(desk, OWN);
        desk.load();
        desk.copy(OWN);
        return desk;
    }

    private static void answer(Check check, HotEditions desk, int rule) {
        check.same("swap", Desks.swapDraft(desk, OWN), rule == 0 ? 0 : ANSWER + rule);
        check.same("edition", desk.edition(OWN), rule == 0 ? 2 : 1);
    }

    private static void partBreaks(Check check, int part, int value, int rule) {
        HotEditions desk = withCopy();
        desk.set(part, value);
        answer(check, desk, rule);
    }

    @Says(promise = Says.TERMS, value = "o is the definition of c's current edition")
    static void sameDefinition(Check check) {
        answer(check, withCopy(), 0);
    }

    @Says(promise = Says.TERMS, value = "5 NAME is not c")
    static void nameIsAnotherLoadedClass(Check check) {
        HotEditions desk = withCopy();
        desk.copy(1);
        answer(check, desk, 5);
    }

    @Says(promise = Says.TERMS, value = "5 NAME is not c")
    static void nameIsAClassThatIsNotLoaded(Check check) {
        HotEditions desk = withCopy();
        desk.choose(0);
        desk.set(1, 2);
        answer(check, desk, 5);
    }

    @Says(promise = Says.TERMS, value = "5 NAME is not c")
    static void nameIsNoClass(Check check) {
        for (int name : new int[] {6, -2, Integer.MAX_VALUE, Integer.MIN_VALUE}) {
            HotEditions desk = withCopy();
            desk.choose(0);
            desk.set(1, name);
            answer(check, desk, 5);
        }
    }

    @Says(promise = Says.TERMS, value = "6 SUPER is not o's")
    static void superInPlaceOfNone(Check check) {
        partBreaks(check, 2, 1, 6);
    }

    @Says(promise = Says.TERMS, value = "6 SUPER is not o's")
    static void noneInPlaceOfSuper(Check check) {
        HotEditions desk = new HotEditions();
        Desks.loadPlain(desk, 1, HotEditions.NONE, 0);
        Desks.loadPlain(desk, 2, 1, 0);
        desk.set(2, HotEditions.NONE);
        check.same("swap", Desks.swapDraft(desk, 2), 32 + 6);
        desk.set(2, 1);
        check.same("swap with o's", Desks.swapDraft(desk, 2), 0);
    }

    /** The draft is a counter but for what is given in place of its own lists. */
    private static HotEditions written(int[] interfaces, int[] fields, int[] methods) {
        HotEditions desk = withCopy();
        desk.blank();
        desk.set(1, OWN);
        for (int i : interfaces) {
            desk.implement(i);
        }
        for (int i = 0; i < fields.length; i += 3) {
            desk.field(fields[i], fields[i + 1], fields[i + 2]);
        }
        for (int i = 0; i < methods.length; i += 2) {
            desk.method(methods[i], methods[i + 1]);
        }
        return desk;
    }

    private static HotEditions withInterfaces(int... interfaces) {
        return written(interfaces, FIELDS, METHODS);
    }

    private static HotEditions withFields(int... fields) {
        return written(INTERFACES, fields, METHODS);
    }

    private static HotEditions withMethods(int... methods) {
        return written(INTERFACES, FIELDS, methods);
    }

    /** Every list of class 0 is full; in the draft what comes last in a list may be another. */
    private static int swapOfAFullOne(int lastFieldFlags, int methods, int lastMethodFlags) {
        HotEditions desk = Desks.withFull();
        desk.blank();
        for (int i = 1; i <= 3; i++) {
            desk.implement(i);
        }
        for (int i = 0; i < 4; i++) {
            desk.field(i, i, i == 3 ? lastFieldFlags : i);
        }
        for (int m = 10; m < 10 + methods; m++) {
            desk.method(m, m == 13 ? lastMethodFlags : m);
        }
        return Desks.swapDraft(desk, 0);
    }

    @Says(promise = Says.TERMS, value = "o is the definition of c's current edition")
    static void sameFullDefinition(Check check) {
        check.same("swap", swapOfAFullOne(3, 4, 13), 0);
    }

    @Says(promise = Says.TERMS, value = "the interfaces are not, in any order, those of o")
    static void interfacesInAnotherOrder(Check check) {
        answer(check, withInterfaces(4, 5), 0);
        answer(check, withInterfaces(5, 4), 0);
    }

    /** What the interfaces answer in place of 1, 2 and 3. */
    private static int swapOfThreeInterfaces(int... three) {
        HotEditions desk = new HotEditions();
        desk.implement(1);
        desk.implement(2);
        desk.implement(3);
        desk.load();
        desk.blank();
        for (int i : three) {
            desk.implement(i);
        }
        return Desks.swapDraft(desk, 0);
    }

    @Says(promise = Says.TERMS, value = "the interfaces are not, in any order, those of o")
    static void threeInterfacesInEveryOrder(Check check) {
        int[][] orders = {{1, 2, 3}, {1, 3, 2}, {2, 1, 3}, {2, 3, 1}, {3, 1, 2}, {3, 2, 1}};
        for (int[] order : orders) {
            check.same("swap", swapOfThreeInterfaces(order), 0);
        }
    }

    @Says(promise = Says.TERMS, value = "the interfaces are not, in any order, those of o")
    static void anotherInterfaceOfThree(Check check) {
        for (int other : new int[] {0, 4, -1}) {
            check.same("in place of the first", swapOfThreeInterfaces(other, 2, 3), 6);
            check.same("in place of the second", swapOfThreeInterfaces(1, other, 3), 6);
            check.same("in place of the last", swapOfThreeInterfaces(1, 2, other), 6);
        }
    }

    @Says(promise = Says.TERMS, value = "the interfaces are not, in any order, those of o")
    static void interfaceMore(Check check) {
        answer(check, withInterfaces(4, 5, 6), 6);
    }

    @Says(promise = Says.TERMS, value = "the interfaces are not, in any order, those of o")
    static void interfaceFewer(Check check) {
        answer(check, withInterfaces(4), 6);
        answer(check, withInterfaces(5), 6);
    }

    @Says(promise = Says.TERMS, value = "the interfaces are not, in any order, those of o")
    static void noInterfaceInPlaceOfTwo(Check check) {
        answer(check, withInterfaces(), 6);
    }

    @Says(promise = Says.TERMS, value = "the interfaces are not, in any order, those of o")
    static void anotherInterface(Check check) {
        for (int other : new int[] {0, 6, -1}) {
            answer(check, withInterfaces(4, other), 6);
            answer(check, withInterfaces(other, 5), 6);
        }
    }

    @Says(promise = Says.TERMS, value = "the interfaces are not, in any order, those of o")
    static void interfaceInPlaceOfNone(Check check) {
        HotEditions desk = Desks.withPlain(1);
        desk.implement(0);
        check.same("swap", Desks.swapDraft(desk, 0), 6);
    }

    @Says(promise = Says.TERMS, value = "7 The fields are not those of o")
    static void sameFields(Check check) {
        answer(check, withFields(1, 2, 3, 2, 2, 0), 0);
    }

    @Says(promise = Says.TERMS, value = "in the same order")
    static void fieldsInAnotherOrder(Check check) {
        answer(check, withFields(2, 2, 0, 1, 2, 3), 7);
    }

    @Says(promise = Says.TERMS, value = "with names, types and flags")
    static void fieldOfAnotherName(Check check) {
        answer(check, withFields(9, 2, 3, 2, 2, 0), 7);
        answer(check, withFields(1, 2, 3, 9, 2, 0), 7);
    }

    @Says(promise = Says.TERMS, value = "with names, types and flags")
    static void fieldOfAnotherType(Check check) {
        answer(check, withFields(1, 9, 3, 2, 2, 0), 7);
        answer(check, withFields(1, 2, 3, 2, 9, 0), 7);
    }

    @Says(promise = Says.TERMS, value = "with names, types and flags")
    static void fieldOfOtherFlags(Check check) {
        answer(check, withFields(1, 2, 9, 2, 2, 0), 7);
        answer(check, withFields(1, 2, 3, 2, 2, 9), 7);
    }

    @Says(promise = Says.TERMS, value = "7 The fields are not those of o")
    static void fieldMore(Check check) {
        answer(check, withFields(1, 2, 3, 2, 2, 0, 3, 0, 0), 7);
    }

    @Says(promise = Says.TERMS, value = "7 The fields are not those of o")
    static void fieldFewer(Check check) {
        answer(check, withFields(1, 2, 3), 7);
    }

    @Says(promise = Says.TERMS, value = "7 The fields are not those of o")
    static void noFieldInPlaceOfTwo(Check check) {
        answer(check, withFields(), 7);
    }

    @Says(promise = Says.TERMS, value = "7 The fields are not those of o")
    static void lastNumberOfFourFields(Check check) {
        check.same("swap", swapOfAFullOne(99, 4, 13), 7);
    }

    @Says(promise = Says.TERMS, value = "8 d has a method whose name no method of o has")
    static void methodMore(Check check) {
        answer(check, withMethods(10, 1, 11, 0, 12, 0), 8);
    }

    @Says(promise = Says.TERMS, value = "8 d has a method whose name no method of o has")
    static void anotherMethodInPlaceOfOne(Check check) {
        answer(check, withMethods(10, 1, 12, 0), 8);
        answer(check, withMethods(12, 0, 11, 0), 8);
    }

    @Says(promise = Says.TERMS, value = "8 d has a method whose name no method of o has")
    static void methodInPlaceOfNone(Check check) {
        HotEditions desk = new HotEditions();
        desk.load();
        desk.method(10, 0);
        check.same("swap", Desks.swapDraft(desk, 0), 8);
    }

    @Says(promise = Says.TERMS, value = "9 o has one whose name no method of d has")
    static void methodFewer(Check check) {
        answer(check, withMethods(10, 1), 9);
        answer(check, withMethods(11, 0), 9);
    }

    @Says(promise = Says.TERMS, value = "9 o has one whose name no method of d has")
    static void noMethodInPlaceOfTwo(Check check) {
        answer(check, withMethods(), 9);
    }

    @Says(promise = Says.TERMS, value = "9 o has one whose name no method of d has")
    static void lastOfFourMethodsFewer(Check check) {
        check.same("swap", swapOfAFullOne(3, 3, 13), 9);
    }

    @Says(promise = Says.TERMS, value = "10 FLAGS are not o's")
    static void otherFlags(Check check) {
        partBreaks(check, 3, 1, 10);
        partBreaks(check, 3, -1, 10);
        partBreaks(check, 3, 0, 0);
    }

    @Says(promise = Says.TERMS, value = "11 The flags of a method are not those of o's method of that name")
    static void otherFlagsOfAMethod(Check check) {
        answer(check, withMethods(10, 0, 11, 0), 11);
        answer(check, withMethods(10, 1, 11, 1), 11);
    }

    @Says(promise = Says.TERMS, value = "11 The flags of a method are not those of o's method of that name")
    static void methodFlagsGoByName(Check check) {
        answer(check, withMethods(11, 0, 10, 1), 0);
        answer(check, withMethods(11, 1, 10, 0), 11);
    }

    @Says(promise = Says.TERMS, value = "11 The flags of a method are not those of o's method of that name")
    static void flagsOfTheLastOfFourMethods(Check check) {
        check.same("swap", swapOfAFullOne(3, 4, 0), 11);
    }

    @Says(promise = Says.TERMS, value = "12 HOST is not o's")
    static void anotherHost(Check check) {
        partBreaks(check, 4, 1, 12);
        partBreaks(check, 4, -1, 12);
        partBreaks(check, 4, 0, 0);
    }

    @Says(promise = Says.TERMS, value = "RULES for a definition d meant for class c")
    static void formatAndCodeMayChange(Check check) {
        HotEditions desk = withCopy();
        desk.set(0, 9);
        desk.choose(0);
        answer(check, desk, 0);
        check.same("code", Desks.run(desk, 0, OWN, 10), 0);
    }

    @Says(promise = Says.TERMS, value = "the latest is the CURRENT one")
    static void heldBesideTheLatestEdition(Check check) {
        HotEditions desk = withInterfaces(5, 4);
        answer(check, desk, 0);
        desk.copy(OWN);
        check.same("a copy of the latest", Desks.swapDraft(desk, OWN), 0);
        check.same("edition", desk.edition(OWN), 3);
    }

    /** All rules are broken at first; then one after the other is mended. */
    @Says(promise = Says.TERMS, value = "The code of the first rule that is broken is the answer")
    static void firstRuleThatIsBroken(Check check) {
        HotEditions desk = new HotEditions();
        Desks.loadPlain(desk, 0, HotEditions.NONE, 0);
        desk.blank();
        desk.set(1, 1);
        desk.implement(1);
        desk.method(10, 0);
        desk.method(11, 0);
        desk.load();
        int[] answers = {1, 2, 3, 4, 5, 6, 6, 7, 8, 9, 10, 11, 12, 0};
        for (int mended = 0; mended < answers.length; mended++) {
            writeBroken(desk, mended);
            check.same("mended " + mended, Desks.swapDraft(desk, 1),
                    answers[mended] == 0 ? 0 : 16 + answers[mended]);
        }
    }

    private static void writeBroken(HotEditions desk, int mended) {
        desk.blank();
        desk.set(0, mended < 1 ? 0 : 9);
        desk.set(1, mended < 5 ? 2 : 1);
        desk.set(2, mended < 3 ? 2 : mended < 4 ? 5 : mended < 6 ? 0 : -1);
        desk.set(3, mended < 11 ? 1 : 0);
        desk.set(4, mended < 13 ? 1 : 0);
        desk.implement(mended < 7 ? 2 : 1);
        if (mended < 2) {
            desk.implement(2);
        }
        if (mended < 8) {
            desk.field(1, 1, 1);
        }
        desk.method(10, mended < 12 ? 1 : 0);
        if (mended < 9) {
            desk.method(12, 0);
        } else if (mended >= 10) {
            desk.method(11, 0);
        }
        if (mended < 4) {
            desk.code(1, 5, 5);
        }
    }
}
