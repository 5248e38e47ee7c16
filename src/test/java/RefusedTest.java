import java.util.function.Consumer;
import java.util.function.Predicate;

/** Whatever call is refused, nothing that can be seen is another afterwards. */
final class RefusedTest {
    public static void main(String[] args) {
        Cases.run(RefusedTest.class);
    }

    /** Holds a busy desk on which a call was refused beside one on which it was not made. */
    private static void refused(Check check, Predicate<HotEditions> call) {
        refused(check, desk -> { }, call);
    }

    private static void refused(Check check, Consumer<HotEditions> before,
            Predicate<HotEditions> call) {
        HotEditions asked = Desks.busy();
        before.accept(asked);
        check.yes("refused", call.test(asked));
        HotEditions left = Desks.busy();
        before.accept(left);
        check.same("all that can be seen", Shown.of(asked), Shown.of(left));
    }

    /** So that a call which should be refused and is not can't go unseen. */
    static void shownTellsEveryChange(Check check) {
        String before = Shown.of(Desks.busy());
        changes(check, before, "blank", desk -> desk.blank());
        changes(check, before, "copy", desk -> desk.copy(0));
        for (int part = 0; part < 5; part++) {
            int each = part;
            changes(check, before, "set " + part, desk -> desk.set(each, 77));
        }
        changes(check, before, "implement", desk -> desk.implement(77));
        changes(check, before, "field", desk -> desk.field(77, 77, 77));
        changes(check, before, "method", desk -> desk.method(77, 77));
        changes(check, before, "choose", desk -> desk.choose(0));
        changes(check, before, "code", desk -> desk.code(0, 77, 77));
        changes(check, before, "load", desk -> desk.load());
        changes(check, before, "transformer", desk -> desk.transformer(0, 77, 77, false));
        changes(check, before, "remove", desk -> desk.remove(1));
        changes(check, before, "queue", desk -> desk.queue(2));
        changes(check, before, "swap", desk -> desk.swap());
        changes(check, before, "repeat", desk -> desk.repeat(2));
        changes(check, before, "start", desk -> desk.start(1, 2, 10));
        changes(check, before, "step", desk -> desk.step(0, 1));
    }

    private static void changes(Check check, String before, String what,
            Consumer<HotEditions> call) {
        HotEditions desk = Desks.busy();
        call.accept(desk);
        check.no(what + " is not seen", Shown.of(desk).equals(before));
    }

    @Says(promise = Says.TERMS, value = "A refused call changes nothing")
    static void copy(Check check) {
        for (int c : new int[] {4, 5, -1, 6}) {
            refused(check, desk -> !desk.copy(c));
        }
    }

    @Says(promise = Says.TERMS, value = "A refused call changes nothing")
    static void set(Check check) {
        for (int part : new int[] {-1, 5, 6}) {
            refused(check, desk -> !desk.set(part, 77));
        }
    }

    @Says(promise = Says.TERMS, value = "A refused call changes nothing")
    static void implement(Check check) {
        refused(check, desk -> desk.implement(1), desk -> !desk.implement(2));
    }

    @Says(promise = Says.TERMS, value = "A refused call changes nothing")
    static void field(Check check) {
        refused(check, desk -> {
            desk.field(5, 5, 5);
            desk.field(6, 6, 6);
        }, desk -> !desk.field(7, 7, 7));
    }

    @Says(promise = Says.TERMS, value = "A refused call changes nothing")
    static void method(Check check) {
        refused(check, desk -> {
            desk.method(12, 5);
            desk.method(13, 6);
            desk.choose(2);
        }, desk -> !desk.method(14, 7));
    }

    @Says(promise = Says.TERMS, value = "A refused call changes nothing")
    static void choose(Check check) {
        for (int k : new int[] {-1, 2, 3, 4}) {
            refused(check, desk -> !desk.choose(k));
        }
    }

    @Says(promise = Says.TERMS, value = "A refused call changes nothing")
    static void codeOfNoMethod(Check check) {
        refused(check, desk -> desk.copy(0), desk -> !desk.code(0, 7, 7));
        refused(check, desk -> desk.blank(), desk -> !desk.code(0, 7, 7));
    }

    @Says(promise = Says.TERMS, value = "A refused call changes nothing")
    static void codeOfAFullMethod(Check check) {
        refused(check, Desks::instructionsThatFit, desk -> !desk.code(0, 7, 7));
    }

    @Says(promise = Says.TERMS, value = "A refused call changes nothing")
    static void transformerOfNoKind(Check check) {
        refused(check, desk -> desk.transformer(-1, 7, HotEditions.NONE, true) == HotEditions.NONE);
        refused(check, desk -> desk.transformer(5, 7, HotEditions.NONE, false) == HotEditions.NONE);
    }

    @Says(promise = Says.TERMS, value = "A refused call changes nothing")
    static void transformerWithoutANumber(Check check) {
        refused(check, desk -> {
            for (int i = 0; i < 3; i++) {
                desk.transformer(0, 0, 0, false);
            }
        }, desk -> desk.transformer(1, 7, HotEditions.NONE, true) == HotEditions.NONE);
    }

    @Says(promise = Says.TERMS, value = "A refused call changes nothing")
    static void remove(Check check) {
        for (int k : new int[] {-1, 0, 3, 4, 5}) {
            refused(check, desk -> !desk.remove(k));
        }
    }

    @Says(promise = Says.TERMS, value = "A refused call changes nothing")
    static void queueForNoLoadedClass(Check check) {
        for (int c : new int[] {-1, 4, 5, 6}) {
            refused(check, desk -> !desk.queue(c));
        }
    }

    @Says(promise = Says.TERMS, value = "A refused call changes nothing")
    static void queueTwice(Check check) {
        refused(check, desk -> !desk.queue(1));
    }

    @Says(promise = Says.TERMS, value = "A refused call changes nothing")
    static void queueIntoAFullBatch(Check check) {
        refused(check, desk -> {
            Desks.queuePlain(desk, 2, 12);
            Desks.queuePlain(desk, 3, 13);
            Desks.draftBusy(desk);
        }, desk -> !desk.queue(0));
    }

    @Says(promise = Says.TERMS, value = "A refused call changes nothing")
    static void repeatOfNoLoadedClass(Check check) {
        for (int c : new int[] {-1, 4, 5, 6}) {
            refused(check, desk -> desk.repeat(c) == HotEditions.NONE);
        }
    }

    @Says(promise = Says.TERMS, value = "if it keeps all rules it is the new current edition")
    static void repeatThatBreaksARule(Check check) {
        refused(check, desk -> desk.transformer(2, 9, 3, true), desk -> desk.repeat(3) == 10);
    }

    @Says(promise = Says.TERMS, value = "A refused call changes nothing")
    static void startOnNoIdleThread(Check check) {
        for (int t : new int[] {-1, 0, 2, 3}) {
            refused(check, desk -> !desk.start(t, 0, 10));
        }
    }

    @Says(promise = Says.TERMS, value = "A refused call changes nothing")
    static void startOfNoMethod(Check check) {
        refused(check, desk -> !desk.start(1, 0, 12));
        for (int c : new int[] {-1, 4, 5, 6}) {
            refused(check, desk -> !desk.start(1, c, 10));
        }
    }

    @Says(promise = Says.TERMS, value = "A refused call changes nothing")
    static void stepOfNoThread(Check check) {
        for (int t : new int[] {-1, 3}) {
            refused(check, desk -> desk.step(t, 1) == HotEditions.NONE);
        }
    }

    @Says(promise = Says.TERMS, value = "A refused call changes nothing")
    static void stepsOutOfRange(Check check) {
        for (int n : new int[] {-1, 101}) {
            refused(check, desk -> desk.step(0, n) == HotEditions.NONE);
        }
    }

    /** Not refused: but what only tells must not change anything either. */
    static void views(Check check) {
        refused(check, desk -> {
            for (int i = -1; i < 7; i++) {
                desk.edition(i);
                desk.kept(i);
                desk.result(i);
                desk.frame(i, i);
                desk.frame(0, i);
            }
            return desk.step(1, 100) == 0 && desk.step(0, 0) == 0;
        });
    }
}
