/** The section "What it is": all parts together, over the whole life of an object. */
final class WholeTest {
    private static final int MOST_CALLS = 512;

    public static void main(String[] args) {
        Cases.run(WholeTest.class);
    }

    @Says(promise = Says.WHAT_IT_IS, value = "changes the code of classes while calls are running")
    static void codeChangesUnderACall(Check check) {
        HotEditions desk = Desks.withPlain(1);
        desk.start(0, 0, 10);
        Desks.queuePlain(desk, 0, 7);
        check.same("swap", desk.swap(), 0);
        check.same("edition", desk.edition(0), 2);
        check.same("frame", desk.frame(0, 0), 8);
    }

    @Says(promise = Says.WHAT_IT_IS,
            value = "new definitions pass a chain of transformers and a list of rules")
    static void transformersComeBeforeTheRules(Check check) {
        HotEditions desk = Desks.withPlain(1);
        desk.transformer(2, 9, HotEditions.NONE, false);
        desk.copy(0);
        check.same("swap with the FLAGS of a transformer", Desks.swapDraft(desk, 0), 10);
        desk.transformer(2, 0, HotEditions.NONE, true);
        check.same("swap with the FLAGS of the last one", Desks.swapDraft(desk, 0), 0);
    }

    @Says(promise = Says.WHAT_IT_IS, value = "several are taken in one swap")
    static void severalInOneSwap(Check check) {
        HotEditions desk = Desks.withPlain(3);
        for (int c = 0; c < 3; c++) {
            Desks.queuePlain(desk, c, 70 + c);
        }
        check.same("swap", desk.swap(), 0);
        for (int c = 0; c < 3; c++) {
            check.same("edition " + c, desk.edition(c), 2);
            check.same("run " + c, Desks.run(desk, 0, c, 10), 70 + c);
        }
    }

    @Says(promise = Says.WHAT_IT_IS, value = "or none of them")
    static void noneIfTheLastBreaksARule(Check check) {
        HotEditions desk = Desks.withPlain(3);
        Desks.queuePlain(desk, 0, 70);
        Desks.queuePlain(desk, 1, 71);
        desk.copy(2);
        desk.set(4, 1);
        desk.queue(2);
        check.same("swap", desk.swap(), 2 * 16 + 12);
        for (int c = 0; c < 3; c++) {
            check.same("edition " + c, desk.edition(c), 1);
            check.same("run " + c, Desks.run(desk, 0, c, 10), c);
        }
    }

    @Says(promise = Says.WHAT_IT_IS, value = "new calls see the new code")
    static void newCallsOfOldCode(Check check) {
        HotEditions desk = Desks.withPlain(1);
        Desks.loadPlain(desk, 1, HotEditions.NONE, 1);
        desk.copy(1);
        desk.choose(0);
        desk.code(1, 0, 10);
        desk.code(1, 0, 10);
        desk.queue(1);
        desk.swap();
        desk.start(0, 1, 10);
        desk.step(0, 1);
        Desks.queuePlain(desk, 0, 7);
        desk.swap();
        Desks.finish(desk, 0);
        check.same("the first call adds 0, the second 7", desk.result(0), 7);
    }

    @Says(promise = Says.WHAT_IT_IS,
            value = "those that run go on with the code they began with")
    static void fiveFramesGoOn(Check check) {
        HotEditions desk = Desks.withDeep();
        HotEditions left = Desks.withDeep();
        desk.start(0, 0, 30);
        left.start(0, 0, 30);
        desk.step(0, 4);
        left.step(0, 4);
        desk.copy(0);
        desk.choose(0);
        check.same("swap of empty code", Desks.swapDraft(desk, 0), 0);
        check.same("kept", desk.kept(0), 2);
        desk.step(0, 100);
        check.same("kept at the end", desk.kept(0), 1);
        // Each of the five frames adds its 1; what they call from now on has empty code.
        check.same("result", desk.result(0), 5);
        Desks.finish(left, 0);
        check.yes("more without the swap", left.result(0) > 5);
    }

    @Says(promise = Says.WHAT_IT_IS,
            value = "An object is used for at most 512 calls after it has been made")
    static void lastCallsAnswerAsTheFirst(Check check) {
        HotEditions desk = new HotEditions();
        desk.method(10, 0);
        desk.code(0, Integer.MAX_VALUE, 0);
        desk.load();
        for (int calls = 3; calls + 1 < MOST_CALLS; calls++) {
            desk.repeat(0);
        }
        check.same("edition, by the last call", desk.edition(0), 1 + MOST_CALLS - 4);
    }

    /** The answers are free, but LANGUAGE.md lets no call throw or go on for ever. */
    @Says(promise = Says.WHAT_IT_IS, value = "what later calls answer is free")
    static void laterCallsEnd(Check check) {
        HotEditions desk = Desks.withDeep();
        for (int i = 0; i < 100 * MOST_CALLS; i++) {
            desk.start(i % 3, 0, 30);
            desk.step(i % 3, 100);
            desk.copy(0);
            desk.queue(0);
            desk.swap();
            desk.transformer(i % 5, i, i % 7, i % 2 == 0);
            desk.remove(i % 6);
        }
        check.yes("all calls came to their end", true);
    }
}
