/** Promises 11 and 12: transformers come and go; and what each kind does. */
final class TransformerTest {
    private static final Check CHECK = new Check();

    public static void main(String[] args) {
        numbers();
        wrongKinds();
        wrongRemovals();
        kind0();
        kind1();
        kind2();
        kind3();
        kind4();
        forOneClass();
        targetNotName();
        orderByNumber();
        repeatersComeLast();
        fullDefinitions();
        CHECK.end();
    }

    private static void numbers() {
        HotEditions desk = new HotEditions();
        for (int k = 0; k < 5; k++) {
            CHECK.same("11 least free number", desk.transformer(k, 0, 0, false), k);
        }
        CHECK.same("11 none is free", desk.transformer(0, 0, 0, false), HotEditions.NONE);
        CHECK.yes("12 remove 3", desk.remove(3));
        CHECK.yes("12 remove 1", desk.remove(1));
        CHECK.no("12 it is free", desk.remove(1));
        CHECK.same("11 least free number", desk.transformer(0, 0, 0, false), 1);
        CHECK.same("11 next free number", desk.transformer(0, 0, 0, false), 3);
        CHECK.same("11 none is free", desk.transformer(0, 0, 0, false), HotEditions.NONE);
        for (int k = 0; k < 5; k++) {
            CHECK.yes("12 remove", desk.remove(k));
            CHECK.no("12 remove again", desk.remove(k));
        }
        CHECK.same("11 all are free", desk.transformer(0, 0, 0, false), 0);
    }

    private static void wrongKinds() {
        HotEditions desk = new HotEditions();
        int[] wrong = {-1, 5, Integer.MAX_VALUE, Integer.MIN_VALUE};
        for (int kind : wrong) {
            CHECK.same("11 kind " + kind, desk.transformer(kind, 0, 0, true), HotEditions.NONE);
        }
        CHECK.same("11 a refused one takes no number", desk.transformer(4, 0, 0, true), 0);
    }

    private static void wrongRemovals() {
        HotEditions desk = new HotEditions();
        for (int k = 0; k < 5; k++) {
            desk.transformer(0, 0, 0, false);
        }
        CHECK.no("12 remove -1", desk.remove(-1));
        CHECK.no("12 remove 5", desk.remove(5));
        CHECK.no("12 remove far off", desk.remove(Integer.MAX_VALUE));
        CHECK.no("12 remove far off", desk.remove(Integer.MIN_VALUE));
        CHECK.same("12 none became free", desk.transformer(0, 0, 0, false), HotEditions.NONE);
    }

    private static HotEditions counterBehind(int kind, int value, int only, boolean repeats) {
        HotEditions desk = new HotEditions();
        desk.transformer(kind, value, only, repeats);
        Desks.draftCounter(desk, 0);
        CHECK.same("11 load", desk.load(), 0);
        desk.remove(0);
        return desk;
    }

    private static void kind0() {
        HotEditions desk = counterBehind(0, 11, 0, false);
        CHECK.same("11 kind 0 leaves code", Desks.run(desk, 0, 0, 10), 112);
        Desks.draftCounter(desk, 0);
        CHECK.same("11 kind 0 leaves all", Desks.swapDraft(desk, 0), 0);
    }

    private static void kind1() {
        HotEditions desk = counterBehind(1, 1000, 0, false);
        CHECK.same("11 kind 1 raises every op 0", Desks.run(desk, 0, 0, 10), 3112);
        CHECK.same("11 kind 1, other method", Desks.run(desk, 0, 0, 11), 1100);
        Desks.draftCounter(desk, 0);
        CHECK.same("11 kind 1 leaves the rest", Desks.swapDraft(desk, 0), 0);
        desk = counterBehind(1, Integer.MAX_VALUE, 0, true);
        CHECK.same("11 kind 1 wraps", Desks.run(desk, 0, 0, 11), Integer.MIN_VALUE + 99);
    }

    private static void kind2() {
        HotEditions desk = counterBehind(2, 8, 0, false);
        Desks.draftCounter(desk, 0);
        CHECK.same("11 kind 2 sets FLAGS", Desks.swapDraft(desk, 0), 10);
        desk.set(3, 8);
        CHECK.same("11 kind 2 sets FLAGS alone", Desks.swapDraft(desk, 0), 0);
        CHECK.same("11 kind 2 leaves code", Desks.run(desk, 0, 0, 10), 112);
    }

    private static void kind3() {
        HotEditions desk = counterBehind(3, 11, 0, false);
        CHECK.same("11 kind 3 empties the named", Desks.run(desk, 0, 0, 11), 0);
        desk.start(0, 0, 10);
        CHECK.same("11 kind 3 empties the others", desk.step(0, 100), 1);
        Desks.draftCounter(desk, 0);
        CHECK.same("11 kind 3 leaves the methods", Desks.swapDraft(desk, 0), 0);
        desk = counterBehind(3, 12, 0, false);
        CHECK.same("11 kind 3 without the name", Desks.run(desk, 0, 0, 10), 112);
    }

    private static void kind4() {
        HotEditions desk = counterBehind(4, 77, 0, false);
        CHECK.same("11 kind 4 renames", Desks.run(desk, 0, 0, 77), 112);
        CHECK.no("11 kind 4: the old name is gone", desk.start(0, 0, 10));
        CHECK.same("11 kind 4 leaves the second", Desks.run(desk, 0, 0, 11), 100);
        desk = new HotEditions();
        desk.transformer(4, 77, 0, false);
        CHECK.same("11 kind 4 without methods", desk.load(), 0);
        CHECK.no("11 kind 4 makes no method", desk.start(0, 0, 77));
    }

    private static void forOneClass() {
        int[] every = {-1, 6, -2, Integer.MAX_VALUE, Integer.MIN_VALUE};
        for (int only : every) {
            HotEditions desk = new HotEditions();
            desk.transformer(1, 1000, only, false);
            for (int c = 0; c < 6; c++) {
                Desks.loadPlain(desk, c, -1, 1);
                CHECK.same("11 only " + only, Desks.run(desk, 0, c, 10), 1001);
            }
        }
        for (int only = 0; only < 6; only++) {
            HotEditions desk = new HotEditions();
            desk.transformer(1, 1000, only, only % 2 == 0);
            for (int c = 0; c < 6; c++) {
                Desks.loadPlain(desk, c, -1, 1);
                CHECK.same("11 only " + only, Desks.run(desk, 0, c, 10), c == only ? 1001 : 1);
            }
        }
    }

    private static void targetNotName() {
        HotEditions desk = new HotEditions();
        Desks.loadPlain(desk, 0, -1, 1);
        Desks.loadPlain(desk, 1, -1, 1);
        desk.transformer(4, 11, 1, false);
        desk.copy(1);
        desk.method(11, 0);
        CHECK.same("11 not for class 0, whatever NAME", Desks.swapDraft(desk, 0), 5);
        desk.copy(0);
        desk.method(11, 0);
        CHECK.same("11 for class 1, whatever NAME", Desks.swapDraft(desk, 1), 16 + 2);
    }

    private static void orderByNumber() {
        HotEditions desk = new HotEditions();
        desk.transformer(0, 0, 0, false);
        desk.transformer(3, 77, 0, false);
        desk.remove(0);
        desk.transformer(4, 77, 0, false);
        Desks.loadPlain(desk, 0, -1, 5);
        CHECK.same("11 the renamed method is found", Desks.run(desk, 0, 0, 77), 0);
        desk = new HotEditions();
        desk.transformer(3, 77, 0, true);
        desk.transformer(4, 77, 0, true);
        Desks.loadPlain(desk, 0, -1, 5);
        CHECK.same("11 renamed too late", Desks.run(desk, 0, 0, 77), 5);
        desk = new HotEditions();
        desk.transformer(2, 1, 0, true);
        desk.transformer(2, 2, 0, true);
        desk.load();
        desk.remove(0);
        desk.remove(1);
        desk.set(3, 2);
        CHECK.same("11 the later FLAGS stay", Desks.swapDraft(desk, 0), 0);
    }

    private static void repeatersComeLast() {
        HotEditions desk = new HotEditions();
        desk.transformer(3, 77, 0, true);
        desk.transformer(4, 77, 0, false);
        Desks.loadPlain(desk, 0, -1, 5);
        CHECK.same("11 one that can't repeat goes first", Desks.run(desk, 0, 0, 77), 0);
        desk = new HotEditions();
        desk.transformer(4, 77, 0, true);
        desk.transformer(3, 77, 0, false);
        Desks.loadPlain(desk, 0, -1, 5);
        CHECK.same("11 one that can repeat goes last", Desks.run(desk, 0, 0, 77), 5);
    }

    private static void fullDefinitions() {
        int[] sums = {63, 63 + 600, 63, 0, 63};
        for (int kind = 0; kind <= 4; kind++) {
            HotEditions desk = new HotEditions();
            desk.transformer(kind, kind == 1 ? 100 : kind == 3 ? 13 : 10, 0, true);
            Desks.draftFull(desk, 0, 3);
            CHECK.same("11 a full one", desk.load(), 0);
            for (int m = 10; m < 14; m++) {
                CHECK.same("11 a full one, kind " + kind, Desks.run(desk, 0, 0, m), sums[kind]);
            }
        }
    }
}
