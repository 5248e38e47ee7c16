/** Promise 10: loading, with the rules 1 to 4. */
final class LoadTest {
    private static final Check CHECK = new Check();

    public static void main(String[] args) {
        ordinary();
        formats();
        doubles();
        ops();
        wayUp();
        supers();
        calledMethods();
        names();
        order();
        draftStays();
        treated();
        CHECK.end();
    }

    private static void ordinary() {
        HotEditions desk = new HotEditions();
        for (int c = 0; c < 6; c++) {
            CHECK.same("10 load", Desks.loadPlain(desk, c, c - 1, 100 + c), 0);
            CHECK.same("10 edition", desk.edition(c), 1);
        }
        for (int c = 0; c < 6; c++) {
            CHECK.same("10 run", Desks.run(desk, 0, c, 10), 100 + c);
        }
    }

    private static void formats() {
        int[] wrong = {0, 10, -1, Integer.MAX_VALUE, Integer.MIN_VALUE};
        for (int format : wrong) {
            HotEditions desk = new HotEditions();
            desk.set(0, format);
            CHECK.same("10 format " + format, desk.load(), 1);
            CHECK.same("10 a refused load loads nothing", desk.edition(0), 0);
        }
        for (int format = 1; format <= 9; format++) {
            HotEditions desk = new HotEditions();
            desk.set(0, format);
            CHECK.same("10 format " + format, desk.load(), 0);
        }
    }

    private static void doubles() {
        for (int first = 0; first < 4; first++) {
            for (int second = first + 1; second < 4; second++) {
                HotEditions desk = new HotEditions();
                for (int i = 0; i < 3; i++) {
                    desk.implement(i == second ? first : i);
                }
                CHECK.same("10 equal interfaces", desk.load(), second < 3 ? 2 : 0);
                desk = new HotEditions();
                for (int i = 0; i < 4; i++) {
                    desk.field(i == second ? first : i, 10 + i, 20 + i);
                }
                CHECK.same("10 fields of one name", desk.load(), 2);
                desk = new HotEditions();
                for (int i = 0; i < 4; i++) {
                    desk.method(i == second ? first : i, 10 + i);
                }
                CHECK.same("10 methods of one name", desk.load(), 2);
            }
        }
        HotEditions desk = new HotEditions();
        desk.implement(1);
        desk.field(1, 1, 1);
        desk.field(2, 1, 1);
        desk.method(1, 1);
        desk.method(2, 1);
        CHECK.same("10 equal numbers of other sorts", desk.load(), 0);
    }

    private static void ops() {
        int[] wrong = {2, -1, Integer.MAX_VALUE, Integer.MIN_VALUE};
        for (int op : wrong) {
            HotEditions desk = new HotEditions();
            desk.method(1, 0);
            desk.method(2, 0);
            desk.code(0, 0, 0);
            desk.code(op, 0, 1);
            CHECK.same("10 op " + op, desk.load(), 2);
            desk.blank();
            desk.method(1, 0);
            desk.code(op, 0, 1);
            desk.method(2, 0);
            CHECK.same("10 op " + op + " of the first", desk.load(), 2);
        }
    }

    private static void wayUp() {
        HotEditions desk = new HotEditions();
        CHECK.same("10 SUPER is NAME", Desks.loadPlain(desk, 2, 2, 0), 3);
        CHECK.same("10 SUPER is NAME, no class", Desks.loadPlain(desk, 9, 9, 0), 3);
        CHECK.same("10 NONE counts as a number", Desks.loadPlain(desk, -1, -1, 0), 3);
        CHECK.same("10 the way ends at once", Desks.loadPlain(desk, -1, 5, 0), 4);
        Desks.loadPlain(desk, 0, -1, 0);
        Desks.loadPlain(desk, 1, 0, 0);
        Desks.loadPlain(desk, 2, 1, 0);
        CHECK.same("10 two ups", Desks.loadPlain(desk, 1, 2, 0), 3);
        CHECK.same("10 three ups", Desks.loadPlain(desk, 0, 2, 0), 3);
        CHECK.same("10 NONE is met at the end", Desks.loadPlain(desk, -1, 2, 0), 3);
        CHECK.same("10 not met", Desks.loadPlain(desk, 3, 2, 0), 0);
        Desks.loadPlain(desk, 4, 3, 0);
        Desks.loadPlain(desk, 5, 4, 0);
        CHECK.same("10 six ups", Desks.loadPlain(desk, -1, 5, 0), 3);
        CHECK.same("10 six ups", Desks.loadPlain(desk, 0, 5, 0), 3);
        CHECK.same("10 six ups, not met", Desks.loadPlain(desk, 6, 5, 0), 5);
    }

    private static void supers() {
        HotEditions desk = new HotEditions();
        int[] wrong = {1, 5, 6, -2, Integer.MAX_VALUE, Integer.MIN_VALUE};
        for (int above : wrong) {
            CHECK.same("10 SUPER " + above, Desks.loadPlain(desk, 0, above, 0), 4);
        }
        CHECK.same("10 SUPER NONE", Desks.loadPlain(desk, 1, -1, 0), 0);
        CHECK.same("10 SUPER is loaded", Desks.loadPlain(desk, 0, 1, 0), 0);
    }

    private static int loadCaller(HotEditions desk, int name, int a, int b) {
        desk.blank();
        desk.set(1, name);
        desk.method(20, 0);
        desk.method(21, 0);
        desk.code(0, 50, 99);
        desk.code(1, a, b);
        return desk.load();
    }

    private static void calledMethods() {
        HotEditions desk = new HotEditions();
        CHECK.same("10 class is not loaded", loadCaller(desk, 0, 1, 20), 4);
        CHECK.same("10 no class", loadCaller(desk, 0, 6, 20), 4);
        CHECK.same("10 NONE is no class", loadCaller(desk, 0, -1, 20), 4);
        CHECK.same("10 no such method of its own", loadCaller(desk, 0, 0, 10), 4);
        desk.blank();
        desk.method(20, 0);
        desk.code(1, 0, 19);
        desk.method(21, 0);
        CHECK.same("10 a call of the first method", desk.load(), 4);
        CHECK.same("10 a later method of its own", loadCaller(desk, 0, 0, 21), 0);
        CHECK.same("10 its own name, that is no class", loadCaller(desk, 7, 7, 20), 5);
        CHECK.same("10 method of another class", loadCaller(desk, 1, 0, 20), 0);
        CHECK.same("10 no such method there", loadCaller(desk, 2, 0, 22), 4);
        Desks.loadPlain(desk, 3, -1, 0);
        CHECK.same("10 its own methods, not the loaded class's", loadCaller(desk, 3, 3, 10), 4);
        CHECK.same("10 its own methods, not the loaded class's", loadCaller(desk, 3, 3, 20), 13);
    }

    private static void names() {
        HotEditions desk = new HotEditions();
        int[] wrong = {6, -2, Integer.MAX_VALUE, Integer.MIN_VALUE};
        for (int name : wrong) {
            CHECK.same("10 NAME " + name, Desks.loadPlain(desk, name, -1, 0), 5);
        }
        CHECK.same("10 first", Desks.loadPlain(desk, 5, -1, 1), 0);
        CHECK.same("10 loaded already", Desks.loadPlain(desk, 5, -1, 2), 13);
        CHECK.same("10 edition stays", desk.edition(5), 1);
        CHECK.same("10 code stays", Desks.run(desk, 0, 5, 10), 1);
    }

    private static void order() {
        HotEditions desk = new HotEditions();
        Desks.loadPlain(desk, 0, -1, 0);
        desk.blank();
        desk.set(0, 0);
        desk.set(2, 0);
        desk.implement(1);
        desk.implement(1);
        desk.method(1, 0);
        desk.code(1, 4, 4);
        CHECK.same("10 rule 1 before 2", desk.load(), 1);
        desk.set(0, 9);
        CHECK.same("10 rule 2 before 3", desk.load(), 2);
        desk.blank();
        desk.set(2, 0);
        desk.method(1, 0);
        desk.code(1, 4, 4);
        CHECK.same("10 rule 3 before 4", desk.load(), 3);
        desk.set(1, 6);
        CHECK.same("10 rule 4 before 5", desk.load(), 4);
        desk.set(1, 0);
        desk.set(2, 3);
        CHECK.same("10 rule 4 before 13", desk.load(), 4);
    }

    private static void draftStays() {
        HotEditions desk = new HotEditions();
        desk.transformer(1, 1000, -1, false);
        desk.transformer(1, 1000, -1, true);
        desk.method(10, 0);
        desk.code(0, 1, 0);
        CHECK.same("10 load", desk.load(), 0);
        CHECK.yes("10 the method stays chosen", desk.code(0, 2, 0));
        CHECK.same("10 the draft is a row of its own", Desks.run(desk, 0, 0, 10), 2001);
        desk.set(1, 1);
        CHECK.same("10 load again", desk.load(), 0);
        CHECK.same("10 the draft was not treated", Desks.run(desk, 0, 1, 10), 4003);
        desk.set(0, 0);
        CHECK.same("10 refused", desk.load(), 1);
        desk.set(0, 1);
        desk.set(1, 2);
        CHECK.yes("10 the method stays chosen", desk.code(0, 4, 0));
        CHECK.same("10 load after a refused one", desk.load(), 0);
        CHECK.same("10 the draft stays", Desks.run(desk, 0, 2, 10), 6007);
    }

    private static void treated() {
        HotEditions desk = new HotEditions();
        desk.transformer(4, 11, 0, true);
        desk.method(10, 0);
        desk.method(11, 0);
        CHECK.same("10 the treated form is tested", desk.load(), 2);
        desk.set(1, 1);
        CHECK.same("10 by those for its class", desk.load(), 0);
        desk.remove(0);
        desk.transformer(4, 11, 9, true);
        desk.set(1, 7);
        CHECK.same("10 no class: those for every class", desk.load(), 2);
        desk.remove(0);
        desk.transformer(4, 11, 0, true);
        CHECK.same("10 no class: not those for one class", desk.load(), 5);
        desk.set(1, 0);
        desk.blank();
        desk.method(10, 0);
        desk.code(1, 0, 11);
        CHECK.same("10 a call is tested behind treating", desk.load(), 0);
    }
}
