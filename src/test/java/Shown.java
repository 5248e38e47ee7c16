/**
 * All that calls can tell of a desk's state, by a fixed run of some 350 calls: two desks in one
 * state give one text. The desk is of no use afterwards.
 */
final class Shown {
    private final HotEditions desk;
    private final StringBuilder text = new StringBuilder();

    private Shown(HotEditions desk) {
        this.desk = desk;
    }

    static String of(HotEditions desk) {
        Shown shown = new Shown(desk);
        shown.views();
        shown.draft();
        shown.ends();
        shown.methods();
        shown.add("swap", desk.swap());
        shown.methods();
        shown.originals();
        shown.methods();
        shown.draftAgain();
        shown.transformers();
        return shown.text.toString();
    }

    private void add(String what, int answer) {
        text.append(what).append(' ').append(answer).append("; ");
    }

    private void add(String what, boolean answer) {
        text.append(what).append(' ').append(answer).append("; ");
    }

    private void views() {
        for (int t = 0; t < 3; t++) {
            add("result " + t, desk.result(t));
            for (int k = 0; k < 5; k++) {
                add("frame " + t + " " + k, desk.frame(t, k));
            }
        }
        for (int c = 0; c < 6; c++) {
            add("edition " + c, desk.edition(c));
            add("kept " + c, desk.kept(c));
        }
    }

    /** Loads it as it is, and then, if its NAME was no free class, as class 5. */
    private void draft() {
        add("code", desk.code(0, 1 << 20, 0));
        add("load", desk.load());
        desk.set(1, 5);
        add("load as 5", desk.load());
        add("interfaces", Desks.interfacesThatFit(desk));
        add("fields", Desks.fieldsThatFit(desk));
        add("methods", Desks.methodsThatFit(desk));
    }

    private void ends() {
        for (int t = 0; t < 3; t++) {
            add("finish " + t, Desks.finish(desk, t));
            add("result " + t, desk.result(t));
        }
    }

    private void methods() {
        for (int c = 0; c < 6; c++) {
            for (int m = 10; m < 14; m++) {
                add("run " + c + " " + m, Desks.run(desk, 0, c, m));
            }
        }
    }

    private void originals() {
        for (int c = 0; c < 6; c++) {
            add("repeat " + c, desk.repeat(c));
        }
    }

    /** Broken if the draft that was loaded as class 5 was not that of a busy desk. */
    private void draftAgain() {
        Desks.draftBusy(desk);
        add("swap of 5", Desks.swapDraft(desk, 5));
    }

    private void transformers() {
        for (int k = 0; k < 5; k++) {
            add("remove " + k, desk.remove(k));
        }
    }
}
