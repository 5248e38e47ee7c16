/** Promises 13 to 15: queue, swap with the rules 1 to 12, and repeat. */
final class SwapTest {
    private static final Check CHECK = new Check();

    public static void main(String[] args) {
        queueRefused();
        queueTakesACopy();
        emptyBatch();
        firstRules();
        laterRules();
        ruleOrder();
        anyOrder();
        formatMayChange();
        fullDefinitions();
        allOrNone();
        firstBrokenInOrder();
        calledMethodsAreThoseOfCurrentEditions();
        treatedAtSwap();
        swapSetsTheOriginal();
        repeatFromTheOriginal();
        repeatBroken();
        repeatRefused();
        repeatLeavesTheBatch();
        CHECK.end();
    }

    private static HotEditions withPlain(int count) {
        HotEditions desk = new HotEditions();
        for (int c = 0; c < count; c++) {
            Desks.loadPlain(desk, c, -1, c);
        }
        return desk;
    }

    private static void queueRefused() {
        HotEditions desk = withPlain(5);
        int[] wrong = {5, 6, -1, Integer.MAX_VALUE, Integer.MIN_VALUE};
        for (int c : wrong) {
            CHECK.no("13 queue for " + c, desk.queue(c));
        }
        CHECK.yes("13 first", Desks.queuePlain(desk, 0, 1));
        CHECK.no("13 the batch has one for it", Desks.queuePlain(desk, 0, 2));
        CHECK.yes("13 second", Desks.queuePlain(desk, 4, 1));
        CHECK.no("13 the batch has one for it", Desks.queuePlain(desk, 0, 2));
        CHECK.no("13 the batch has one for it", Desks.queuePlain(desk, 4, 2));
        CHECK.yes("13 third", Desks.queuePlain(desk, 2, 1));
        CHECK.no("13 the batch has three", Desks.queuePlain(desk, 1, 2));
        CHECK.same("13 swap", desk.swap(), 0);
        for (int c = 0; c < 5; c++) {
            boolean swapped = c % 2 == 0;
            CHECK.same("13 edition", desk.edition(c), swapped ? 2 : 1);
            CHECK.same("13 the first that came", Desks.run(desk, 0, c, 10), swapped ? 1 : c);
        }
        CHECK.yes("13 again room for it", Desks.queuePlain(desk, 0, 3));
    }

    private static void queueTakesACopy() {
        HotEditions desk = withPlain(1);
        Desks.queuePlain(desk, 0, 7);
        CHECK.yes("13 the method stays chosen", desk.code(0, 100, 0));
        desk.set(0, 0);
        CHECK.same("13 later writing does not reach it", desk.swap(), 0);
        CHECK.same("13 later code does not reach it", Desks.run(desk, 0, 0, 10), 7);
        desk.set(0, 1);
        CHECK.same("13 the draft stays", Desks.swapDraft(desk, 0), 0);
        CHECK.same("13 the draft stays", Desks.run(desk, 0, 0, 10), 107);
    }

    private static void emptyBatch() {
        HotEditions desk = withPlain(2);
        CHECK.same("14 empty batch", desk.swap(), 0);
        CHECK.same("14 nothing new", desk.edition(0), 1);
        Desks.queuePlain(desk, 1, 5);
        CHECK.same("14 swap", desk.swap(), 0);
        CHECK.same("14 the batch is empty", desk.swap(), 0);
        CHECK.same("14 one new edition", desk.edition(1), 2);
        CHECK.same("14 none for the other", desk.edition(0), 1);
    }

    private static void firstRules() {
        HotEditions desk = Desks.withCounter();
        desk.copy(0);
        desk.set(0, 0);
        CHECK.same("14 rule 1", Desks.swapDraft(desk, 0), 1);
        desk.copy(0);
        desk.implement(5);
        CHECK.same("14 rule 2, interfaces", Desks.swapDraft(desk, 0), 2);
        desk.copy(0);
        desk.field(2, 9, 9);
        CHECK.same("14 rule 2, fields", Desks.swapDraft(desk, 0), 2);
        desk.copy(0);
        desk.method(11, 0);
        CHECK.same("14 rule 2, methods", Desks.swapDraft(desk, 0), 2);
        desk.copy(0);
        desk.choose(1);
        desk.code(-1, 0, 0);
        CHECK.same("14 rule 2, op", Desks.swapDraft(desk, 0), 2);
        Desks.loadPlain(desk, 1, 0, 0);
        desk.copy(0);
        desk.set(2, 1);
        CHECK.same("14 rule 3", Desks.swapDraft(desk, 0), 3);
        desk.set(2, 2);
        CHECK.same("14 rule 4, SUPER", Desks.swapDraft(desk, 0), 4);
        desk.copy(0);
        desk.choose(0);
        desk.code(1, 1, 11);
        CHECK.same("14 rule 4, call", Desks.swapDraft(desk, 0), 4);
        CHECK.same("14 edition stays", desk.edition(0), 1);
        CHECK.same("14 code stays", Desks.run(desk, 0, 0, 10), 112);
    }

    private static void laterRules() {
        HotEditions desk = new HotEditions();
        Desks.loadPlain(desk, 1, -1, 0);
        Desks.draftCounter(desk, 3);
        CHECK.same("14 load", desk.load(), 0);
        desk.copy(3);
        desk.set(1, 2);
        CHECK.same("14 rule 5, no loaded class", Desks.swapDraft(desk, 3), 48 + 5);
        desk.set(1, 9);
        CHECK.same("14 rule 5, no class", Desks.swapDraft(desk, 3), 48 + 5);
        desk.copy(3);
        desk.set(2, 1);
        CHECK.same("14 rule 6, SUPER", Desks.swapDraft(desk, 3), 48 + 6);
        desk.copy(3);
        desk.implement(6);
        CHECK.same("14 rule 6, one more", Desks.swapDraft(desk, 3), 48 + 6);
        draftWithInterfaces(desk, 4, 6);
        CHECK.same("14 rule 6, another", Desks.swapDraft(desk, 3), 48 + 6);
        draftWithInterfaces(desk, 6, 5);
        CHECK.same("14 rule 6, another", Desks.swapDraft(desk, 3), 48 + 6);
        desk.copy(3);
        desk.field(3, 0, 0);
        CHECK.same("14 rule 7, one more", Desks.swapDraft(desk, 3), 48 + 7);
        desk.copy(3);
        desk.method(12, 0);
        CHECK.same("14 rule 8", Desks.swapDraft(desk, 3), 48 + 8);
        draftWithMethods(desk, 10, 1, 12, 0);
        CHECK.same("14 rule 8 before 9", Desks.swapDraft(desk, 3), 48 + 8);
        draftWithMethods(desk, 10, 1, HotEditions.NONE, 0);
        CHECK.same("14 rule 9", Desks.swapDraft(desk, 3), 48 + 9);
        desk.copy(3);
        desk.set(3, 1);
        CHECK.same("14 rule 10", Desks.swapDraft(desk, 3), 48 + 10);
        draftWithMethods(desk, 10, 1, 11, 1);
        CHECK.same("14 rule 11", Desks.swapDraft(desk, 3), 48 + 11);
        draftWithMethods(desk, 11, 1, 10, 0);
        CHECK.same("14 rule 11, by name", Desks.swapDraft(desk, 3), 48 + 11);
        desk.copy(3);
        desk.set(4, 1);
        CHECK.same("14 rule 12", Desks.swapDraft(desk, 3), 48 + 12);
        CHECK.same("14 edition stays", desk.edition(3), 1);
    }

    private static void draftWithInterfaces(HotEditions desk, int first, int second) {
        desk.blank();
        desk.set(1, 3);
        desk.implement(first);
        desk.implement(second);
        desk.field(1, 2, 3);
        desk.field(2, 2, 0);
        desk.method(10, 1);
        desk.method(11, 0);
    }

    private static void draftWithMethods(HotEditions desk, int first, int flags, int second, int flags2) {
        desk.blank();
        desk.set(1, 3);
        desk.implement(4);
        desk.implement(5);
        desk.field(1, 2, 3);
        desk.field(2, 2, 0);
        desk.method(first, flags);
        if (second != HotEditions.NONE) {
            desk.method(second, flags2);
        }
    }

    /** All rules are broken at first; then one after the other is mended. */
    private static void ruleOrder() {
        HotEditions desk = new HotEditions();
        Desks.loadPlain(desk, 0, -1, 0);
        desk.blank();
        desk.set(1, 1);
        desk.implement(1);
        desk.method(10, 0);
        desk.method(11, 0);
        desk.load();
        int[] answers = {1, 2, 3, 4, 5, 6, 6, 7, 8, 9, 10, 11, 12, 0};
        for (int mended = 0; mended < answers.length; mended++) {
            draftBroken(desk, mended);
            CHECK.same("14 order, " + mended, Desks.swapDraft(desk, 1),
                    answers[mended] == 0 ? 0 : 16 + answers[mended]);
        }
    }

    private static void draftBroken(HotEditions desk, int mended) {
        desk.blank();
        desk.set(0, mended < 1 ? 0 : 9);
        desk.set(1, mended < 5 ? 2 : 1);
        desk.set(2, mended < 3 ? 2 : mended < 4 ? 5 : mended < 6 ? 0 : -1);
        desk.set(3, mended < 11 ? 1 : 0);
        desk.set(4, mended < 13 ? 1 : 0);
        desk.implement(mended < 7 ? 2 : 1);
        if (mended < 2) {
            desk.implement(2);
        }
        if (mended < 8) {
            desk.field(1, 1, 1);
        }
        desk.method(10, mended < 12 ? 1 : 0);
        if (mended < 9) {
            desk.method(12, 0);
        } else if (mended >= 10) {
            desk.method(11, 0);
        }
        if (mended < 4) {
            desk.code(1, 5, 5);
        }
    }

    private static void anyOrder() {
        HotEditions desk = Desks.withCounter();
        desk.blank();
        desk.implement(5);
        desk.implement(4);
        desk.field(2, 2, 0);
        desk.field(1, 2, 3);
        desk.method(11, 0);
        desk.method(10, 1);
        CHECK.same("14 fields keep their order", Desks.swapDraft(desk, 0), 7);
        desk.blank();
        desk.implement(5);
        desk.implement(4);
        desk.field(1, 2, 3);
        desk.field(2, 2, 0);
        desk.method(11, 0);
        desk.code(0, 1, 0);
        desk.method(10, 1);
        desk.code(0, 2, 0);
        CHECK.same("14 interfaces and methods need not", Desks.swapDraft(desk, 0), 0);
        CHECK.same("14 methods go by name", Desks.run(desk, 0, 0, 10), 2);
        CHECK.same("14 methods go by name", Desks.run(desk, 0, 0, 11), 1);
    }

    private static void formatMayChange() {
        HotEditions desk = Desks.withCounter();
        desk.copy(0);
        desk.set(0, 9);
        CHECK.same("14 FORMAT may change", Desks.swapDraft(desk, 0), 0);
        CHECK.same("14 edition", desk.edition(0), 2);
    }

    private static void fullDefinitions() {
        HotEditions desk = new HotEditions();
        Desks.draftFull(desk, 0, 3);
        desk.load();
        Desks.draftFull(desk, 0, 4);
        CHECK.same("14 full, another interface", Desks.swapDraft(desk, 0), 6);
        desk.copy(0);
        desk.choose(3);
        desk.code(0, 9, 0);
        CHECK.same("14 full", Desks.swapDraft(desk, 0), 0);
        CHECK.same("14 full, the code that stays", Desks.run(desk, 0, 0, 12), 63);
        CHECK.same("14 full, the new code", Desks.run(desk, 0, 0, 13), 9);
        CHECK.same("15 full", desk.repeat(0), 0);
        CHECK.same("15 full", desk.edition(0), 3);
    }

    private static void allOrNone() {
        HotEditions desk = withPlain(3);
        Desks.queuePlain(desk, 2, 50);
        Desks.queuePlain(desk, 0, 50);
        desk.copy(1);
        desk.set(4, 9);
        desk.queue(1);
        CHECK.same("14 the last is broken", desk.swap(), 16 + 12);
        for (int c = 0; c < 3; c++) {
            CHECK.same("14 none has a new edition", desk.edition(c), 1);
            CHECK.same("14 none has new code", Desks.run(desk, 0, c, 10), c);
            CHECK.same("14 none has a new original", desk.repeat(c), 0);
            CHECK.same("14 none has a new original", Desks.run(desk, 0, c, 10), c);
        }
        CHECK.same("14 the batch is empty", desk.swap(), 0);
        CHECK.same("14 the batch is empty", desk.edition(0), 2);
        Desks.queuePlain(desk, 2, 60);
        Desks.queuePlain(desk, 0, 61);
        Desks.queuePlain(desk, 1, 62);
        CHECK.same("14 all keep the rules", desk.swap(), 0);
        CHECK.same("14 all have new code", Desks.run(desk, 0, 2, 10), 60);
        CHECK.same("14 all have new code", Desks.run(desk, 0, 0, 10), 61);
        CHECK.same("14 all have new code", Desks.run(desk, 0, 1, 10), 62);
        CHECK.same("14 the next number", desk.edition(1), 3);
    }

    private static void firstBrokenInOrder() {
        HotEditions desk = withPlain(6);
        desk.copy(5);
        desk.set(4, 9);
        desk.queue(5);
        desk.copy(0);
        desk.set(0, 0);
        desk.queue(0);
        CHECK.same("14 in the order in which they came", desk.swap(), 80 + 12);
    }

    private static void calledMethodsAreThoseOfCurrentEditions() {
        HotEditions desk = withPlain(2);
        desk.copy(1);
        desk.choose(0);
        desk.code(1, 0, 12);
        desk.set(1, 0);
        desk.method(12, 0);
        CHECK.same("14 its NAME's methods are d's", Desks.swapDraft(desk, 1), 16 + 5);
        desk.copy(0);
        desk.choose(0);
        desk.code(1, 1, 10);
        CHECK.same("14 a call of another class", Desks.swapDraft(desk, 0), 0);
        CHECK.same("14 a call of another class", Desks.run(desk, 0, 0, 10), 1);
    }

    private static void treatedAtSwap() {
        HotEditions desk = withPlain(2);
        desk.transformer(1, 100, 0, false);
        Desks.queuePlain(desk, 0, 1);
        Desks.queuePlain(desk, 1, 1);
        desk.remove(0);
        desk.transformer(1, 1000, 1, false);
        desk.transformer(1, 10000, 1, true);
        CHECK.same("14 swap", desk.swap(), 0);
        CHECK.same("14 none for class 0 now", Desks.run(desk, 0, 0, 10), 1);
        CHECK.same("14 those for class 1", Desks.run(desk, 0, 1, 10), 11001);
        desk.copy(1);
        CHECK.same("14 a copy is treated again", Desks.swapDraft(desk, 1), 0);
        CHECK.same("14 a copy is treated again", Desks.run(desk, 0, 1, 10), 22001);
        desk.transformer(2, 5, 0, true);
        desk.copy(0);
        CHECK.same("14 the treated form is tested", Desks.swapDraft(desk, 0), 10);
    }

    private static void swapSetsTheOriginal() {
        HotEditions desk = withPlain(1);
        desk.transformer(1, 10, 0, false);
        desk.transformer(1, 100, 0, true);
        Desks.queuePlain(desk, 0, 1);
        desk.swap();
        CHECK.same("14 treated", Desks.run(desk, 0, 0, 10), 111);
        desk.remove(0);
        desk.remove(1);
        CHECK.same("15 repeat", desk.repeat(0), 0);
        CHECK.same("14 the original form", Desks.run(desk, 0, 0, 10), 11);
    }

    private static void repeatFromTheOriginal() {
        HotEditions desk = new HotEditions();
        desk.transformer(1, 10, -1, false);
        desk.transformer(1, 100, 0, true);
        desk.transformer(1, 1000, 1, true);
        Desks.loadPlain(desk, 0, -1, 1);
        CHECK.same("15 loaded", Desks.run(desk, 0, 0, 10), 111);
        for (int e = 2; e < 5; e++) {
            CHECK.same("15 repeat", desk.repeat(0), 0);
            CHECK.same("15 the next number", desk.edition(0), e);
            CHECK.same("15 the original stays", Desks.run(desk, 0, 0, 10), 111);
        }
        desk.transformer(1, 10000, 9, true);
        CHECK.same("15 repeat", desk.repeat(0), 0);
        CHECK.same("15 a new one for every class", Desks.run(desk, 0, 0, 10), 10111);
        desk.remove(0);
        CHECK.same("15 repeat", desk.repeat(0), 0);
        CHECK.same("15 one that can't repeat", Desks.run(desk, 0, 0, 10), 10111);
        desk.remove(1);
        desk.remove(3);
        CHECK.same("15 repeat", desk.repeat(0), 0);
        CHECK.same("15 the original form alone", Desks.run(desk, 0, 0, 10), 11);
    }

    private static void repeatBroken() {
        HotEditions desk = Desks.withCounter();
        desk.transformer(2, 6, 0, true);
        CHECK.same("15 rule 10", desk.repeat(0), 10);
        desk.remove(0);
        desk.transformer(4, 11, 0, true);
        CHECK.same("15 rule 2", desk.repeat(0), 2);
        desk.remove(0);
        desk.transformer(4, 12, 0, true);
        CHECK.same("15 rule 8", desk.repeat(0), 8);
        CHECK.same("15 edition stays", desk.edition(0), 1);
        CHECK.same("15 code stays", Desks.run(desk, 0, 0, 10), 112);
        desk.remove(0);
        CHECK.same("15 the original stays", desk.repeat(0), 0);
        CHECK.same("15 edition", desk.edition(0), 2);
    }

    private static void repeatRefused() {
        HotEditions desk = Desks.withCounter();
        int[] wrong = {1, 5, 6, -1, Integer.MAX_VALUE, Integer.MIN_VALUE};
        for (int c : wrong) {
            CHECK.same("15 repeat " + c, desk.repeat(c), HotEditions.NONE);
        }
        CHECK.same("15 nothing changes", desk.edition(0), 1);
    }

    private static void repeatLeavesTheBatch() {
        HotEditions desk = withPlain(2);
        Desks.queuePlain(desk, 0, 40);
        Desks.queuePlain(desk, 1, 41);
        CHECK.same("15 repeat", desk.repeat(0), 0);
        CHECK.same("10 load", Desks.loadPlain(desk, 2, -1, 2), 0);
        CHECK.same("14 swap", desk.swap(), 0);
        CHECK.same("14 edition behind repeat", desk.edition(0), 3);
        CHECK.same("14 code", Desks.run(desk, 0, 0, 10), 40);
        CHECK.same("14 code", Desks.run(desk, 0, 1, 10), 41);
    }
}
