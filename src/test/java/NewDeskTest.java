/** Promises 1 and 2: a new object, and a blank draft. */
final class NewDeskTest {
    public static void main(String[] args) {
        Cases.run(NewDeskTest.class);
    }

    @Says(promise = 1, value = "Nothing is loaded")
    static void nothingIsLoaded(Check check) {
        HotEditions desk = new HotEditions();
        for (int c = 0; c < 6; c++) {
            check.same("edition " + c, desk.edition(c), 0);
            check.same("kept " + c, desk.kept(c), 0);
            check.no("copy " + c, desk.copy(c));
            check.no("queue " + c, desk.queue(c));
            check.none("repeat " + c, desk.repeat(c));
            check.no("start " + c, desk.start(0, c, 0));
        }
    }

    @Says(promise = 1, value = "no transformers")
    static void everyNumberIsFree(Check check) {
        HotEditions desk = new HotEditions();
        for (int k = 0; k < 5; k++) {
            check.no("remove " + k, desk.remove(k));
        }
        for (int k = 0; k < 5; k++) {
            check.same("transformer", desk.transformer(0, 0, 0, false), k);
        }
    }

    @Says(promise = 1, value = "no transformers")
    static void nothingChangesTheFirstDefinition(Check check) {
        HotEditions desk = Desks.withCounter();
        check.same("run", Desks.run(desk, 0, 0, 10), 112);
        Desks.draftCounter(desk, 0);
        check.same("swap of the same", Desks.swapDraft(desk, 0), 0);
    }

    @Says(promise = 1, value = "the batch is empty")
    static void emptyBatchHasRoomForThree(Check check) {
        HotEditions desk = new HotEditions();
        check.same("swap", desk.swap(), 0);
        desk = Desks.withPlain(3);
        for (int c = 0; c < 3; c++) {
            check.yes("queue " + c, desk.queue(c));
        }
    }

    @Says(promise = 1, value = "all threads are idle")
    static void threadsAreIdle(Check check) {
        HotEditions desk = new HotEditions();
        for (int t = 0; t < 3; t++) {
            for (int k = 0; k < 5; k++) {
                check.none("frame " + t + " " + k, desk.frame(t, k));
            }
            check.same("step " + t, desk.step(t, 1), 0);
        }
        desk = Desks.withPlain(1);
        for (int t = 0; t < 3; t++) {
            check.yes("start " + t, desk.start(t, 0, 10));
        }
    }

    @Says(promise = 1, value = "results 0")
    static void resultsAreZero(Check check) {
        HotEditions desk = new HotEditions();
        for (int t = 0; t < 3; t++) {
            check.same("result " + t, desk.result(t), 0);
        }
    }

    @Says(promise = 1, value = "the draft is blank")
    static void newDraftIsBlank(Check check) {
        HotEditions desk = new HotEditions();
        HotEditions blanked = new HotEditions();
        blanked.blank();
        check.same("all that can be seen", Shown.of(desk), Shown.of(blanked));
    }

    @Says(promise = 1, value = "the draft is blank")
    static void newDraftIsThatOfPromiseTwo(Check check) {
        HotEditions desk = new HotEditions();
        check.same("load", desk.load(), 0);
        check.same("edition of class 0", desk.edition(0), 1);
        writeBlankOut(desk);
        check.same("swap of a blank one, written out", Desks.swapDraft(desk, 0), 0);
    }

    @Says(promise = Says.TERMS, value = "at first it is blank")
    static void newDraftHasRoomForAll(Check check) {
        HotEditions desk = new HotEditions();
        check.no("code", desk.code(0, 0, 0));
        check.no("choose", desk.choose(0));
        check.same("interfaces", Desks.interfacesThatFit(desk), 3);
        check.same("fields", Desks.fieldsThatFit(desk), 4);
        check.same("methods", Desks.methodsThatFit(desk), 4);
    }

    @Says(promise = 1, value = "Nothing is loaded")
    static void newObjectBesideABusyOne(Check check) {
        String before = Shown.of(new HotEditions());
        Desks.busy();
        check.same("all that can be seen", Shown.of(new HotEditions()), before);
    }

    private static void writeBlankOut(HotEditions desk) {
        desk.blank();
        desk.set(0, 1);
        desk.set(1, 0);
        desk.set(2, HotEditions.NONE);
        desk.set(3, 0);
        desk.set(4, 0);
    }

    /** The draft of a busy desk has no part that is as in a blank one. */
    private static HotEditions blanked() {
        HotEditions desk = new HotEditions();
        Desks.draftBusy(desk);
        desk.blank();
        return desk;
    }

    @Says(promise = 2, value = "The draft becomes blank")
    static void blankAfterAFullDraft(Check check) {
        HotEditions full = Desks.busy();
        Desks.draftFull(full, 0, 3);
        full.blank();
        HotEditions other = Desks.busy();
        other.blank();
        check.same("all that can be seen", Shown.of(full), Shown.of(other));
    }

    @Says(promise = 2, value = "The draft becomes blank")
    static void blankTwice(Check check) {
        HotEditions desk = blanked();
        desk.blank();
        check.same("all that can be seen", Shown.of(desk), Shown.of(new HotEditions()));
    }

    @Says(promise = 2, value = "FORMAT 1")
    static void blankFormat(Check check) {
        HotEditions desk = new HotEditions();
        desk.set(0, 10);
        desk.blank();
        check.same("load", desk.load(), 0);
    }

    @Says(promise = 2, value = "NAME 0")
    static void blankName(Check check) {
        HotEditions desk = blanked();
        desk.load();
        check.same("edition 0", desk.edition(0), 1);
        check.same("edition 5", desk.edition(5), 0);
    }

    @Says(promise = 2, value = "SUPER NONE")
    static void blankSuper(Check check) {
        HotEditions desk = blanked();
        desk.set(1, 1);
        desk.load();
        desk.set(2, HotEditions.NONE);
        check.same("swap with SUPER NONE", Desks.swapDraft(desk, 1), 0);
        desk.blank();
        check.same("load of class 0", desk.load(), 0);
        desk.set(1, 1);
        desk.set(2, 0);
        check.same("swap with SUPER 0", Desks.swapDraft(desk, 1), 16 + 6);
    }

    @Says(promise = 2, value = "FLAGS 0")
    static void blankFlags(Check check) {
        HotEditions desk = blanked();
        desk.load();
        desk.set(3, 0);
        check.same("swap with FLAGS 0", Desks.swapDraft(desk, 0), 0);
        desk.set(3, 1);
        check.same("swap with FLAGS 1", Desks.swapDraft(desk, 0), 10);
    }

    @Says(promise = 2, value = "HOST 0")
    static void blankHost(Check check) {
        HotEditions desk = blanked();
        desk.load();
        desk.set(4, 0);
        check.same("swap with HOST 0", Desks.swapDraft(desk, 0), 0);
        desk.set(4, 1);
        check.same("swap with HOST 1", Desks.swapDraft(desk, 0), 12);
    }

    @Says(promise = 2, value = "no interfaces")
    static void blankHasNoInterfaces(Check check) {
        check.same("interfaces that fit", Desks.interfacesThatFit(blanked()), 3);
    }

    @Says(promise = 2, value = "fields")
    static void blankHasNoFields(Check check) {
        check.same("fields that fit", Desks.fieldsThatFit(blanked()), 4);
    }

    @Says(promise = 2, value = "methods")
    static void blankHasNoMethods(Check check) {
        check.no("choose", blanked().choose(0));
        check.same("methods that fit", Desks.methodsThatFit(blanked()), 4);
    }
}
