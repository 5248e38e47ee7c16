/** Promises 3 to 9: the writing of the draft. */
final class DraftTest {
    public static void main(String[] args) {
        Cases.run(DraftTest.class);
    }

    @Says(promise = 3, value = "The draft becomes the definition of the current edition of class c")
    static void copyOfTheFirstEdition(Check check) {
        HotEditions desk = Desks.withCounter();
        desk.blank();
        check.yes("copy", desk.copy(0));
        check.same("swap of the copy", Desks.swapDraft(desk, 0), 0);
        check.same("its code", Desks.run(desk, 0, 0, 10), 112);
    }

    @Says(promise = 3, value = "The draft becomes the definition of the current edition of class c")
    static void copyOfALaterEdition(Check check) {
        HotEditions desk = Desks.withPlain(1);
        Desks.queuePlain(desk, 0, 7);
        desk.swap();
        desk.blank();
        desk.copy(0);
        desk.set(1, 1);
        desk.load();
        check.same("the code of edition 2", Desks.run(desk, 0, 1, 10), 7);
    }

    @Says(promise = 3, value = "The draft becomes the definition of the current edition of class c")
    static void copyOfATreatedDefinition(Check check) {
        HotEditions desk = new HotEditions();
        desk.transformer(1, 10, 0, false);
        desk.transformer(1, 100, 0, true);
        Desks.loadPlain(desk, 0, HotEditions.NONE, 1);
        desk.copy(0);
        desk.set(1, 1);
        desk.load();
        check.same("not the original", Desks.run(desk, 0, 1, 10), 111);
    }

    @Says(promise = 3, value = "The draft becomes the definition of the current edition of class c")
    static void copyOverAFullerDraft(Check check) {
        HotEditions desk = new HotEditions();
        desk.load();
        Desks.draftFull(desk, 3, 9);
        desk.copy(0);
        check.same("interfaces that fit", Desks.interfacesThatFit(desk), 3);
        check.same("fields that fit", Desks.fieldsThatFit(desk), 4);
        check.same("methods that fit", Desks.methodsThatFit(desk), 4);
    }

    @Says(promise = 3, value = "The draft becomes the definition of the current edition of class c")
    static void copyOfAFullDefinition(Check check) {
        HotEditions desk = Desks.withFull();
        desk.blank();
        desk.copy(0);
        check.same("interfaces that fit", Desks.interfacesThatFit(desk), 0);
        check.same("fields that fit", Desks.fieldsThatFit(desk), 0);
        check.same("methods that fit", Desks.methodsThatFit(desk), 0);
        check.same("swap", Desks.swapDraft(desk, 0), 0);
        for (int m = 10; m < 14; m++) {
            check.same("code of " + m, Desks.run(desk, 0, 0, m), 63);
        }
    }

    @Says(promise = 3, value = "The draft becomes the definition of the current edition of class c")
    static void copyTakesEveryPart(Check check) {
        HotEditions desk = new HotEditions();
        Desks.loadPlain(desk, 0, HotEditions.NONE, 0);
        Desks.draftBusy(desk);
        desk.load();
        for (int part = 0; part < 5; part++) {
            desk.set(part, 77);
        }
        desk.copy(5);
        check.same("swap", Desks.swapDraft(desk, 5), 0);
    }

    @Says(promise = 3, value = "The draft becomes the definition of the current edition of class c")
    static void copyOfTheFirstAndTheLastClass(Check check) {
        HotEditions desk = Desks.withPlain(6);
        check.yes("copy 0", desk.copy(0));
        check.same("load of 0 again", desk.load(), 13);
        check.yes("copy 5", desk.copy(5));
        check.same("swap as 5", Desks.swapDraft(desk, 5), 0);
    }

    @Says(promise = 3, value = "The draft becomes the definition of the current edition of class c")
    static void writingTheCopyLeavesTheEdition(Check check) {
        HotEditions desk = Desks.withCounter();
        desk.copy(0);
        desk.choose(0);
        desk.set(3, 77);
        check.same("the edition's code", Desks.run(desk, 0, 0, 10), 112);
        desk.copy(0);
        check.same("the edition's FLAGS", Desks.swapDraft(desk, 0), 0);
    }

    @Says(promise = 3, value = "no method being CHOSEN")
    static void copyChoosesNone(Check check) {
        HotEditions desk = Desks.withCounter();
        check.yes("one is chosen before", desk.code(0, 1, 0));
        desk.copy(0);
        check.no("code", desk.code(0, 1, 0));
    }

    private static void refusedCopy(Check check, int c) {
        HotEditions desk = Desks.withPlain(5);
        check.no("copy " + c, desk.copy(c));
        check.yes("the method stays chosen", desk.code(0, 100, 0));
        desk.set(1, 5);
        check.same("load", desk.load(), 0);
        check.same("the draft stays", Desks.run(desk, 0, 5, 10), 104);
    }

    @Says(promise = 3, value = "false (refused) if c is no loaded class")
    static void copyOfAClassThatIsNotLoaded(Check check) {
        refusedCopy(check, 5);
    }

    @Says(promise = 3, value = "false (refused) if c is no loaded class")
    static void copyBelowTheClasses(Check check) {
        refusedCopy(check, -1);
    }

    @Says(promise = 3, value = "false (refused) if c is no loaded class")
    static void copyAboveTheClasses(Check check) {
        refusedCopy(check, 6);
    }

    @Says(promise = 3, value = "false (refused) if c is no loaded class")
    static void copyFarOff(Check check) {
        for (int c : Desks.far()) {
            refusedCopy(check, c);
        }
    }

    private static void partBreaks(Check check, int part, int value, int rule) {
        HotEditions desk = Desks.withCounter();
        desk.copy(0);
        check.yes("set", desk.set(part, value));
        check.same("swap", Desks.swapDraft(desk, 0), rule);
    }

    @Says(promise = 4, value = "0 FORMAT")
    static void setFormat(Check check) {
        partBreaks(check, 0, 10, 1);
        partBreaks(check, 0, 9, 0);
    }

    @Says(promise = 4, value = "1 NAME")
    static void setName(Check check) {
        HotEditions desk = Desks.withPlain(1);
        check.yes("set", desk.set(1, 4));
        check.same("load", desk.load(), 0);
        check.same("edition", desk.edition(4), 1);
        check.same("run", Desks.run(desk, 0, 4, 10), 0);
    }

    @Says(promise = 4, value = "2 SUPER")
    static void setSuper(Check check) {
        partBreaks(check, 2, 33, 4);
        partBreaks(check, 2, 0, 3);
        partBreaks(check, 2, HotEditions.NONE, 0);
    }

    @Says(promise = 4, value = "3 FLAGS")
    static void setFlags(Check check) {
        partBreaks(check, 3, 33, 10);
        partBreaks(check, 3, 0, 0);
    }

    @Says(promise = 4, value = "4 HOST")
    static void setHost(Check check) {
        partBreaks(check, 4, 33, 12);
        partBreaks(check, 4, 0, 0);
    }

    @Says(promise = 4, value = "Sets a part of the draft")
    static void setAgain(Check check) {
        HotEditions desk = new HotEditions();
        desk.set(1, 3);
        desk.set(1, 2);
        desk.load();
        check.same("the first value", desk.edition(3), 0);
        check.same("the last value", desk.edition(2), 1);
    }

    @Says(promise = Says.TERMS, value = "A DEFINITION has a FORMAT, a NAME, a SUPER, FLAGS and a HOST (ints)")
    static void setToTheEndsOfInt(Check check) {
        partBreaks(check, 0, Integer.MAX_VALUE, 1);
        partBreaks(check, 0, Integer.MIN_VALUE, 1);
        partBreaks(check, 2, Integer.MAX_VALUE, 4);
        partBreaks(check, 2, Integer.MIN_VALUE, 4);
        partBreaks(check, 3, Integer.MIN_VALUE, 10);
        partBreaks(check, 4, Integer.MAX_VALUE, 12);
    }

    @Says(promise = 4, value = "Sets a part of the draft")
    static void setLeavesTheMethodChosen(Check check) {
        HotEditions desk = Desks.withPlain(1);
        for (int part = 0; part < 5; part++) {
            desk.set(part, 1);
        }
        check.yes("code", desk.code(0, 1, 0));
    }

    private static void refusedPart(Check check, int part) {
        for (int value = -1; value <= 9; value++) {
            HotEditions desk = Desks.withCounter();
            desk.copy(0);
            check.no("set", desk.set(part, value));
            check.same("swap of the draft that stays", Desks.swapDraft(desk, 0), 0);
        }
    }

    @Says(promise = 4, value = "false (refused) for another part")
    static void partTooSmall(Check check) {
        refusedPart(check, -1);
    }

    @Says(promise = 4, value = "false (refused) for another part")
    static void partTooLarge(Check check) {
        refusedPart(check, 5);
    }

    @Says(promise = 4, value = "false (refused) for another part")
    static void partFarOff(Check check) {
        for (int part : Desks.far()) {
            refusedPart(check, part);
        }
    }

    @Says(promise = 5, value = "Adds an interface to the draft")
    static void implementAdds(Check check) {
        HotEditions desk = Desks.withPlain(1);
        check.yes("implement", desk.implement(6));
        check.same("swap", Desks.swapDraft(desk, 0), 6);
    }

    @Says(promise = 5, value = "Adds an interface to the draft")
    static void implementAnyInt(Check check) {
        HotEditions desk = new HotEditions();
        check.yes("least", desk.implement(Integer.MIN_VALUE));
        check.yes("greatest", desk.implement(Integer.MAX_VALUE));
        check.yes("-1", desk.implement(-1));
        check.same("load", desk.load(), 0);
    }

    @Says(promise = 5, value = "Adds an interface to the draft")
    static void implementLeavesTheMethodChosen(Check check) {
        HotEditions desk = Desks.withPlain(1);
        desk.implement(6);
        check.yes("code", desk.code(0, 1, 0));
    }

    @Says(promise = 5, value = "false (refused) if it has 3")
    static void fourthInterface(Check check) {
        HotEditions desk = new HotEditions();
        for (int i = 1; i <= 3; i++) {
            check.yes("interface " + i, desk.implement(i));
        }
        check.no("a fourth", desk.implement(1));
        check.no("a fourth again", desk.implement(4));
        check.same("load: no two are equal", desk.load(), 0);
    }

    @Says(promise = 5, value = "false (refused) if it has 3")
    static void refusedInterfaceLeavesTheThree(Check check) {
        HotEditions desk = new HotEditions();
        for (int i = 1; i <= 4; i++) {
            desk.implement(i);
        }
        desk.load();
        desk.blank();
        for (int i = 3; i >= 1; i--) {
            desk.implement(i);
        }
        check.same("swap with the three", Desks.swapDraft(desk, 0), 0);
    }

    @Says(promise = Says.TERMS, value = "INTERFACES (a list of at most 3 ints)")
    static void blankMakesRoomForInterfaces(Check check) {
        HotEditions desk = Desks.withFull();
        check.same("full", Desks.interfacesThatFit(desk), 0);
        desk.blank();
        check.same("blank", Desks.interfacesThatFit(desk), 3);
    }

    @Says(promise = 6, value = "Adds a field to the draft")
    static void fieldAdds(Check check) {
        HotEditions desk = Desks.withPlain(1);
        check.yes("field", desk.field(6, 7, 8));
        check.same("swap", Desks.swapDraft(desk, 0), 7);
    }

    @Says(promise = 6, value = "Adds a field to the draft")
    static void fieldOfAnyInts(Check check) {
        HotEditions desk = new HotEditions();
        check.yes("least", desk.field(Integer.MIN_VALUE, Integer.MIN_VALUE, Integer.MIN_VALUE));
        check.yes("greatest", desk.field(Integer.MAX_VALUE, Integer.MAX_VALUE, Integer.MAX_VALUE));
        check.yes("-1", desk.field(-1, -1, -1));
        check.same("load", desk.load(), 0);
        desk.copy(0);
        check.same("swap", Desks.swapDraft(desk, 0), 0);
    }

    @Says(promise = 6, value = "Adds a field to the draft")
    static void fieldLeavesTheMethodChosen(Check check) {
        HotEditions desk = Desks.withPlain(1);
        desk.field(6, 7, 8);
        check.yes("code", desk.code(0, 1, 0));
    }

    @Says(promise = 6, value = "false (refused) if it has 4")
    static void fifthField(Check check) {
        HotEditions desk = new HotEditions();
        for (int i = 1; i <= 4; i++) {
            check.yes("field " + i, desk.field(i, 0, 0));
        }
        check.no("a fifth", desk.field(1, 0, 0));
        check.no("a fifth again", desk.field(5, 0, 0));
        check.same("load: no two have one name", desk.load(), 0);
    }

    @Says(promise = 6, value = "false (refused) if it has 4")
    static void refusedFieldLeavesTheFour(Check check) {
        HotEditions desk = Desks.withFull();
        check.no("field", desk.field(99, 99, 99));
        check.same("swap with the four", Desks.swapDraft(desk, 0), 0);
    }

    @Says(promise = Says.TERMS, value = "FIELDS (a list of at most 4, each a name, a type and flags, ints)")
    static void blankMakesRoomForFields(Check check) {
        HotEditions desk = Desks.withFull();
        check.same("full", Desks.fieldsThatFit(desk), 0);
        desk.blank();
        check.same("blank", Desks.fieldsThatFit(desk), 4);
    }

    @Says(promise = 7, value = "Adds a method without code to the draft")
    static void methodAdds(Check check) {
        HotEditions desk = Desks.withPlain(1);
        check.yes("method", desk.method(6, 7));
        check.same("swap", Desks.swapDraft(desk, 0), 8);
    }

    @Says(promise = 7, value = "Adds a method without code to the draft")
    static void methodIsWithoutCode(Check check) {
        HotEditions desk = new HotEditions();
        desk.method(1, 0);
        desk.load();
        desk.start(0, 0, 1);
        check.same("its end alone is a step", desk.step(0, 100), 1);
    }

    @Says(promise = 7, value = "Adds a method without code to the draft")
    static void methodIsWithoutTheCodeOfAnEarlierDraft(Check check) {
        HotEditions desk = new HotEditions();
        Desks.draftFull(desk, 0, 3);
        desk.blank();
        for (int m = 10; m < 14; m++) {
            desk.method(m, 0);
        }
        desk.load();
        for (int m = 10; m < 14; m++) {
            check.same("run", Desks.run(desk, 0, 0, m), 0);
        }
    }

    @Says(promise = 7, value = "Adds a method without code to the draft")
    static void methodOfAnyInts(Check check) {
        HotEditions desk = new HotEditions();
        check.yes("least", desk.method(Integer.MIN_VALUE, Integer.MIN_VALUE));
        check.yes("greatest", desk.method(Integer.MAX_VALUE, Integer.MAX_VALUE));
        check.yes("-1", desk.method(-1, -1));
        check.same("load", desk.load(), 0);
        check.yes("start of the least", desk.start(0, 0, Integer.MIN_VALUE));
        check.yes("start of the greatest", desk.start(1, 0, Integer.MAX_VALUE));
        check.yes("start of -1", desk.start(2, 0, -1));
    }

    @Says(promise = 7, value = "it is the chosen one then")
    static void newMethodIsChosen(Check check) {
        HotEditions desk = new HotEditions();
        for (int m = 10; m < 14; m++) {
            desk.method(m, 0);
            check.yes("code", desk.code(0, m, 0));
        }
        desk.load();
        for (int m = 10; m < 14; m++) {
            check.same("each its own code", Desks.run(desk, 0, 0, m), m);
        }
    }

    @Says(promise = 7, value = "it is the chosen one then")
    static void newMethodIsChosenBehindCopy(Check check) {
        HotEditions desk = Desks.withPlain(1);
        desk.copy(0);
        desk.method(11, 0);
        check.yes("code", desk.code(0, 5, 0));
        desk.set(1, 1);
        desk.load();
        check.same("the new one", Desks.run(desk, 0, 1, 11), 5);
        check.same("the other", Desks.run(desk, 0, 1, 10), 0);
    }

    @Says(promise = 7, value = "false (refused) if the draft has 4")
    static void fifthMethod(Check check) {
        HotEditions desk = new HotEditions();
        for (int i = 1; i <= 4; i++) {
            check.yes("method " + i, desk.method(i, 0));
        }
        check.no("a fifth", desk.method(1, 0));
        check.no("a fifth again", desk.method(5, 0));
        check.same("load: no two have one name", desk.load(), 0);
        check.no("start of the fifth", desk.start(0, 0, 5));
    }

    @Says(promise = 7, value = "false (refused) if the draft has 4")
    static void refusedMethodLeavesTheChoice(Check check) {
        HotEditions desk = new HotEditions();
        for (int i = 1; i <= 4; i++) {
            desk.method(i, 0);
        }
        desk.choose(1);
        check.no("a fifth", desk.method(5, 0));
        check.yes("code", desk.code(0, 9, 0));
        desk.load();
        check.same("the second has it", Desks.run(desk, 0, 0, 2), 9);
        check.same("the fourth has not", Desks.run(desk, 0, 0, 4), 0);
    }

    @Says(promise = Says.TERMS, value = "METHODS (a list of at most 4")
    static void blankMakesRoomForMethods(Check check) {
        HotEditions desk = Desks.withFull();
        check.same("full", Desks.methodsThatFit(desk), 0);
        desk.blank();
        check.same("blank", Desks.methodsThatFit(desk), 4);
    }

    @Says(promise = 8, value = "Method k of the draft (from 0) is the chosen one")
    static void chooseTheFirst(Check check) {
        HotEditions desk = Desks.withFull();
        check.yes("choose", desk.choose(0));
        desk.code(0, 1000, 0);
        Desks.swapDraft(desk, 0);
        check.same("the first", Desks.run(desk, 0, 0, 10), 1000);
        check.same("the second", Desks.run(desk, 0, 0, 11), 63);
    }

    @Says(promise = 8, value = "Method k of the draft (from 0) is the chosen one")
    static void chooseTheLast(Check check) {
        HotEditions desk = Desks.withFull();
        check.yes("choose", desk.choose(3));
        desk.code(0, 1000, 0);
        Desks.swapDraft(desk, 0);
        check.same("the last", Desks.run(desk, 0, 0, 13), 1000);
        check.same("the third", Desks.run(desk, 0, 0, 12), 63);
    }

    @Says(promise = 8, value = "Method k of the draft (from 0) is the chosen one")
    static void chooseBehindCopy(Check check) {
        HotEditions desk = Desks.withCounter();
        desk.copy(0);
        check.yes("choose", desk.choose(1));
        check.yes("code", desk.code(0, 3, 0));
        Desks.swapDraft(desk, 0);
        check.same("run", Desks.run(desk, 0, 0, 11), 3);
    }

    @Says(promise = 8, value = "and its code becomes empty")
    static void chooseEmptiesFullCode(Check check) {
        HotEditions desk = Desks.withFull();
        desk.choose(2);
        check.same("instructions that fit", Desks.instructionsThatFit(desk), 6);
    }

    @Says(promise = 8, value = "and its code becomes empty")
    static void chooseEmptiesTheChosenOne(Check check) {
        HotEditions desk = Desks.withPlain(1);
        desk.choose(0);
        Desks.swapDraft(desk, 0);
        desk.start(0, 0, 10);
        check.same("its end alone is a step", desk.step(0, 100), 1);
    }

    @Says(promise = 8, value = "and its code becomes empty")
    static void chooseLeavesTheOthersCode(Check check) {
        HotEditions desk = Desks.withFull();
        desk.choose(1);
        Desks.swapDraft(desk, 0);
        check.same("the chosen one", Desks.run(desk, 0, 0, 11), 0);
        for (int m : new int[] {10, 12, 13}) {
            check.same("method " + m, Desks.run(desk, 0, 0, m), 63);
        }
    }

    private static void refusedChoice(Check check, int k) {
        HotEditions desk = Desks.withCounter();
        check.no("choose " + k, desk.choose(k));
        check.yes("the second stays chosen", desk.code(0, 1000, 0));
        Desks.swapDraft(desk, 0);
        check.same("the second keeps its code", Desks.run(desk, 0, 0, 11), 1100);
        check.same("the first keeps its code", Desks.run(desk, 0, 0, 10), 1112);
    }

    @Says(promise = 8, value = "false (refused) if there is none")
    static void chooseTooSmall(Check check) {
        refusedChoice(check, -1);
    }

    @Says(promise = 8, value = "false (refused) if there is none")
    static void chooseOneBehindTheLast(Check check) {
        refusedChoice(check, 2);
    }

    @Says(promise = 8, value = "false (refused) if there is none")
    static void chooseFarOff(Check check) {
        for (int k : Desks.far()) {
            refusedChoice(check, k);
        }
    }

    @Says(promise = 8, value = "false (refused) if there is none")
    static void chooseOfABlankDraft(Check check) {
        HotEditions desk = new HotEditions();
        check.no("choose", desk.choose(0));
        check.no("code", desk.code(0, 0, 0));
    }

    @Says(promise = 8, value = "false (refused) if there is none")
    static void chooseBehindTheLastOfAFullDraft(Check check) {
        HotEditions desk = Desks.withFull();
        check.yes("choose 3", desk.choose(3));
        check.no("choose 4", desk.choose(4));
    }

    @Says(promise = 9, value = "Adds an instruction to the code of the method of the draft that is chosen")
    static void codeAddsBehindTheLast(Check check) {
        HotEditions desk = Desks.withPlain(1);
        check.yes("code", desk.code(0, 4, 0));
        Desks.swapDraft(desk, 0);
        desk.start(0, 0, 10);
        check.same("two instructions and the end", desk.step(0, 100), 3);
        check.same("result", desk.result(0), 4);
    }

    @Says(promise = 9, value = "Adds an instruction to the code of the method of the draft that is chosen")
    static void codeOfAnyInts(Check check) {
        HotEditions desk = new HotEditions();
        desk.method(1, 0);
        check.yes("ops are not looked at", desk.code(Integer.MIN_VALUE, Integer.MIN_VALUE, 0));
        check.yes("nor are operands", desk.code(1, Integer.MAX_VALUE, Integer.MAX_VALUE));
    }

    @Says(promise = 9, value = "false (refused) if none is (a blank draft has none)")
    static void codeOfABlankDraft(Check check) {
        HotEditions desk = Desks.withPlain(1);
        desk.blank();
        check.no("code", desk.code(0, 1, 0));
        check.same("the draft stays blank", Desks.swapDraft(desk, 0), 9);
    }

    @Says(promise = 9, value = "false (refused) if none is")
    static void codeOfANewDraft(Check check) {
        check.no("code", new HotEditions().code(0, 1, 0));
    }

    @Says(promise = 9, value = "false (refused) if none is")
    static void codeBehindCopy(Check check) {
        HotEditions desk = Desks.withCounter();
        desk.copy(0);
        check.no("code", desk.code(0, 1, 0));
        Desks.swapDraft(desk, 0);
        check.same("the first has none more", Desks.run(desk, 0, 0, 10), 112);
        check.same("the second has none more", Desks.run(desk, 0, 0, 11), 100);
    }

    @Says(promise = 9, value = "or it has 6")
    static void seventhInstruction(Check check) {
        HotEditions desk = new HotEditions();
        desk.method(1, 0);
        for (int i = 0; i < 6; i++) {
            check.yes("instruction " + (i + 1), desk.code(0, 1 << i, 0));
        }
        check.no("a seventh", desk.code(0, 1 << 6, 0));
        desk.load();
        check.same("the six", Desks.run(desk, 0, 0, 1), 63);
    }

    @Says(promise = Says.TERMS, value = "CODE: a list of at most 6 INSTRUCTIONS")
    static void eachMethodHasRoomForSix(Check check) {
        HotEditions desk = new HotEditions();
        for (int m = 0; m < 4; m++) {
            desk.method(m, 0);
            check.same("instructions that fit", Desks.instructionsThatFit(desk), 6);
        }
    }
}
