/** Promises 1 to 9: a new object, and the writing of the draft. */
final class DraftTest {
    private static final Check CHECK = new Check();

    public static void main(String[] args) {
        newObject();
        newDraftIsBlank();
        blankForgetsAll();
        copyTakesTheCurrentEdition();
        copyRefused();
        copyIsACopy();
        setParts();
        implementRoom();
        fieldRoom();
        methodRoom();
        methodIsWithoutCode();
        chooseEmptiesCode();
        chooseRefused();
        codeRoom();
        codeNeedsAChosenMethod();
        CHECK.end();
    }

    private static void newObject() {
        HotEditions desk = new HotEditions();
        for (int c = -1; c <= 6; c++) {
            CHECK.same("1 edition", desk.edition(c), 0);
            CHECK.same("1 kept", desk.kept(c), 0);
            CHECK.same("1 repeat", desk.repeat(c), HotEditions.NONE);
            CHECK.no("1 copy", desk.copy(c));
            CHECK.no("1 queue", desk.queue(c));
        }
        for (int t = -1; t <= 3; t++) {
            CHECK.same("1 result", desk.result(t), 0);
            CHECK.same("1 frame", desk.frame(t, 0), HotEditions.NONE);
        }
        for (int k = -1; k <= 5; k++) {
            CHECK.no("1 remove", desk.remove(k));
        }
        CHECK.same("1 step of an idle thread", desk.step(0, 1), 0);
        CHECK.same("1 swap of an empty batch", desk.swap(), 0);
        CHECK.no("1 no method is chosen", desk.code(0, 0, 0));
        CHECK.no("1 there is no method to choose", desk.choose(0));
        CHECK.same("1 NONE", HotEditions.NONE, -1);
    }

    private static void expectBlankOfClass0(String what, HotEditions desk) {
        CHECK.same(what + " load", desk.load(), 0);
        CHECK.same(what + " edition", desk.edition(0), 1);
        desk.blank();
        desk.set(0, 1);
        desk.set(1, 0);
        desk.set(2, HotEditions.NONE);
        desk.set(3, 0);
        desk.set(4, 0);
        CHECK.same(what + " is the same as written out", Desks.swapDraft(desk, 0), 0);
        desk.implement(1);
        CHECK.same(what + " has no interfaces", Desks.swapDraft(desk, 0), 6);
        desk.blank();
        desk.field(1, 1, 1);
        CHECK.same(what + " has no fields", Desks.swapDraft(desk, 0), 7);
        desk.blank();
        desk.method(1, 1);
        CHECK.same(what + " has no methods", Desks.swapDraft(desk, 0), 8);
    }

    private static void newDraftIsBlank() {
        expectBlankOfClass0("1 new draft", new HotEditions());
    }

    private static void blankForgetsAll() {
        HotEditions desk = new HotEditions();
        desk.set(0, 10);
        desk.set(1, 3);
        desk.set(2, 4);
        desk.set(3, 5);
        desk.set(4, 6);
        desk.implement(7);
        desk.field(8, 8, 8);
        desk.method(9, 9);
        desk.code(2, 2, 2);
        desk.blank();
        CHECK.no("2 no method is chosen", desk.code(0, 0, 0));
        CHECK.no("2 no method is there", desk.choose(0));
        expectBlankOfClass0("2 blank", desk);
    }

    private static void copyTakesTheCurrentEdition() {
        HotEditions desk = Desks.withCounter();
        desk.blank();
        CHECK.yes("3 copy", desk.copy(0));
        CHECK.no("3 no method is chosen", desk.code(0, 1, 0));
        CHECK.same("3 swap of the copy", Desks.swapDraft(desk, 0), 0);
        CHECK.same("3 the code came along", Desks.run(desk, 0, 0, 10), 112);
        desk.copy(0);
        desk.choose(1);
        desk.code(0, 1000, 0);
        Desks.swapDraft(desk, 0);
        desk.copy(0);
        CHECK.no("3 no method is chosen any more", desk.code(0, 1, 0));
        Desks.swapDraft(desk, 0);
        CHECK.same("3 copy of a later edition", Desks.run(desk, 0, 0, 10), 1012);
    }

    private static void copyRefused() {
        HotEditions desk = Desks.withCounter();
        desk.blank();
        desk.set(1, 1);
        desk.method(20, 0);
        CHECK.no("3 copy of a class that is not loaded", desk.copy(1));
        CHECK.no("3 copy of no class", desk.copy(6));
        CHECK.no("3 copy of no class", desk.copy(-1));
        CHECK.no("3 copy of no class", desk.copy(Integer.MIN_VALUE));
        CHECK.yes("3 a refused copy leaves the method chosen", desk.code(0, 9, 0));
        CHECK.same("3 a refused copy leaves the draft", desk.load(), 0);
        CHECK.same("3 a refused copy leaves the code", Desks.run(desk, 0, 1, 20), 9);
    }

    private static void copyIsACopy() {
        HotEditions desk = Desks.withCounter();
        desk.copy(0);
        desk.choose(0);
        desk.set(3, 77);
        CHECK.same("3 writing the draft leaves the edition", Desks.run(desk, 0, 0, 10), 112);
        desk.copy(0);
        CHECK.same("3 writing the draft leaves FLAGS", Desks.swapDraft(desk, 0), 0);
    }

    private static void setParts() {
        int[] answers = {1, 5, 4, 10, 12};
        for (int part = 0; part < answers.length; part++) {
            HotEditions desk = Desks.withCounter();
            desk.copy(0);
            CHECK.yes("4 set", desk.set(part, 33));
            CHECK.same("4 part " + part, Desks.swapDraft(desk, 0), answers[part]);
        }
        HotEditions desk = Desks.withCounter();
        desk.copy(0);
        CHECK.no("4 part -1", desk.set(-1, 33));
        CHECK.no("4 part 5", desk.set(5, 33));
        CHECK.no("4 part far off", desk.set(Integer.MAX_VALUE, 33));
        CHECK.same("4 a refused set leaves the draft", Desks.swapDraft(desk, 0), 0);
    }

    private static void implementRoom() {
        HotEditions desk = new HotEditions();
        CHECK.yes("5 first", desk.implement(1));
        CHECK.yes("5 second", desk.implement(Integer.MIN_VALUE));
        CHECK.yes("5 third", desk.implement(-1));
        CHECK.no("5 fourth", desk.implement(1));
        CHECK.same("5 the fourth was not taken", desk.load(), 0);
        desk.blank();
        desk.implement(-1);
        desk.implement(Integer.MIN_VALUE);
        CHECK.same("5 two of three", Desks.swapDraft(desk, 0), 6);
        desk.implement(1);
        CHECK.same("5 all three", Desks.swapDraft(desk, 0), 0);
        CHECK.no("5 queue leaves the draft full", desk.implement(9));
    }

    private static void fieldRoom() {
        HotEditions desk = new HotEditions();
        for (int i = 0; i < 4; i++) {
            CHECK.yes("6 field " + i, desk.field(i, 10 + i, 20 + i));
        }
        CHECK.no("6 fifth", desk.field(0, 0, 0));
        CHECK.same("6 the fifth was not taken", desk.load(), 0);
        for (int changed = 0; changed < 12; changed++) {
            desk.blank();
            for (int i = 0; i < 4; i++) {
                int at = 3 * i;
                desk.field(changed == at ? 99 : i, changed == at + 1 ? 99 : 10 + i,
                        changed == at + 2 ? 99 : 20 + i);
            }
            CHECK.same("6 a number of a field is another", Desks.swapDraft(desk, 0), 7);
        }
        desk.copy(0);
        CHECK.same("6 the same fields", Desks.swapDraft(desk, 0), 0);
    }

    private static void methodRoom() {
        HotEditions desk = new HotEditions();
        for (int i = 0; i < 4; i++) {
            CHECK.yes("7 method " + i, desk.method(i, 10 + i));
            CHECK.yes("7 it is chosen", desk.code(0, 100 + i, 0));
        }
        CHECK.no("7 fifth", desk.method(0, 0));
        CHECK.yes("7 the fourth stays chosen", desk.code(0, 1000, 0));
        CHECK.same("7 the fifth was not taken", desk.load(), 0);
        for (int i = 0; i < 4; i++) {
            CHECK.same("7 code of method " + i, Desks.run(desk, 0, 0, i), i == 3 ? 1103 : 100 + i);
        }
        for (int changed = 0; changed < 4; changed++) {
            desk.blank();
            for (int i = 0; i < 4; i++) {
                desk.method(i, changed == i ? 99 : 10 + i);
            }
            CHECK.same("7 flags of a method", Desks.swapDraft(desk, 0), 11);
        }
    }

    private static void methodIsWithoutCode() {
        HotEditions desk = new HotEditions();
        desk.method(1, 0);
        desk.code(0, 5, 0);
        desk.blank();
        desk.method(1, 0);
        desk.load();
        CHECK.same("7 a method comes without code", Desks.run(desk, 0, 0, 1), 0);
    }

    private static void chooseEmptiesCode() {
        HotEditions desk = new HotEditions();
        Desks.draftCounter(desk, 0);
        CHECK.yes("8 choose", desk.choose(0));
        CHECK.yes("8 code goes to the chosen one", desk.code(0, 3, 0));
        desk.load();
        CHECK.same("8 the code before is gone", Desks.run(desk, 0, 0, 10), 3);
        CHECK.same("8 the other method stays", Desks.run(desk, 0, 0, 11), 100);
        desk.copy(0);
        desk.choose(1);
        Desks.swapDraft(desk, 0);
        CHECK.same("8 choose alone empties", Desks.run(desk, 0, 0, 11), 0);
    }

    private static void chooseRefused() {
        HotEditions desk = new HotEditions();
        Desks.draftCounter(desk, 0);
        CHECK.no("8 method 2 of 2", desk.choose(2));
        CHECK.no("8 method -1", desk.choose(-1));
        CHECK.no("8 method far off", desk.choose(Integer.MAX_VALUE));
        CHECK.yes("8 a refused choose leaves the choice", desk.code(0, 1000, 0));
        desk.load();
        CHECK.same("8 a refused choose leaves the code", Desks.run(desk, 0, 0, 11), 1100);
        CHECK.same("8 a refused choose leaves the code", Desks.run(desk, 0, 0, 10), 1112);
    }

    private static void codeRoom() {
        HotEditions desk = new HotEditions();
        desk.method(1, 0);
        for (int i = 0; i < 6; i++) {
            CHECK.yes("9 instruction " + i, desk.code(0, 1 << i, 0));
        }
        CHECK.no("9 seventh", desk.code(0, 1 << 6, 0));
        desk.load();
        CHECK.same("9 six instructions", Desks.run(desk, 0, 0, 1), 63);
        CHECK.no("9 load leaves the code full", desk.code(0, 0, 0));
        desk.method(2, 0);
        CHECK.yes("9 another method has room", desk.code(7, 0, 0));
    }

    private static void codeNeedsAChosenMethod() {
        HotEditions desk = Desks.withCounter();
        CHECK.yes("9 load leaves the choice", desk.code(0, 1, 0));
        desk.blank();
        CHECK.no("9 not behind blank", desk.code(0, 1, 0));
        desk.copy(0);
        CHECK.no("9 not behind copy", desk.code(0, 1, 0));
        Desks.swapDraft(desk, 0);
        CHECK.same("9 refused code is not there", Desks.run(desk, 0, 0, 11), 100);
    }
}
