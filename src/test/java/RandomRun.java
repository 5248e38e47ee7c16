import java.util.Random;
import java.util.function.Predicate;
import java.util.function.ToIntFunction;

/**
 * A long run of calls on the program and on its model, whose answers must be the same, and on a
 * second object of the program, on which the calls that changed nothing are never made.
 */
final class RandomRun {
    private static final int CALLS = 512;
    private static final int[] FAR = {Integer.MIN_VALUE, Integer.MAX_VALUE, -2, 1 << 30};

    private final Desk desk = new RealDesk();
    private final Desk spared = new RealDesk();
    private final PlainModel model = new PlainModel();
    private final Random random;
    private final Check check;
    private final String where;
    private final Seen seen;
    private int calls = 0;

    RandomRun(int seed, Check check, Seen seen) {
        random = new Random(seed);
        where = "run " + seed + " ";
        this.check = check;
        this.seen = seen;
    }

    /** What came up in all runs, so that dull ones are noticed. */
    static final class Seen {
        final int[] load = new int[14];
        final int[] swap = new int[14];
        final int[] repeat = new int[14];
        int kept = 0;
        int frames = 0;
    }

    void play() {
        while (calls < CALLS) {
            act();
            look();
        }
    }

    private boolean chance(int percent) {
        return random.nextInt(100) < percent;
    }

    private int pick(int from, int to) {
        return from + random.nextInt(to - from + 1);
    }

    /** A number of a range, at times one just outside it, seldom one far off. */
    private int about(int from, int to) {
        if (chance(1)) {
            return FAR[random.nextInt(FAR.length)];
        }
        return chance(6) ? pick(from - 1, to + 1) : pick(from, to);
    }

    private void act() {
        int dice = random.nextInt(100);
        if (dice < 12) {
            loadNew();
        } else if (dice < 40) {
            for (int i = pick(1, 3); i > 0; i--) {
                queueEdited();
            }
            if (chance(85)) {
                swap();
            }
        } else if (dice < 50) {
            repeat(likelyClass());
        } else if (dice < 60) {
            changeTransformers();
        } else if (dice < 90) {
            runThreads();
        } else {
            anyCall();
        }
    }

    private int number(String what, boolean changesAtZeroAlone, ToIntFunction<Desk> call) {
        calls++;
        int answer = call.applyAsInt(desk);
        check.same(where + what, answer, call.applyAsInt(model));
        boolean changesNothing = changesAtZeroAlone ? answer != 0 : answer == HotEditions.NONE;
        if (!changesNothing) {
            check.same(where + what + " (spared)", call.applyAsInt(spared), answer);
        }
        return answer;
    }

    private void taken(String what, Predicate<Desk> call) {
        calls++;
        boolean answer = call.test(desk);
        check.same(where + what, answer, call.test(model));
        if (answer) {
            check.yes(where + what + " (spared)", call.test(spared));
        }
    }

    private void blank() {
        calls++;
        desk.blank();
        spared.blank();
        model.blank();
    }

    private void set(int part, int value) {
        taken("set", d -> d.set(part, value));
    }

    private void implement(int i) {
        taken("implement", d -> d.implement(i));
    }

    private void field(int name, int type, int flags) {
        taken("field", d -> d.field(name, type, flags));
    }

    private void method(int name, int flags) {
        taken("method", d -> d.method(name, flags));
    }

    private void choose(int k) {
        taken("choose", d -> d.choose(k));
    }

    private void code(int op, int a, int b) {
        taken("code", d -> d.code(op, a, b));
    }

    private void load() {
        seen.load[number("load", true, Desk::load)]++;
    }

    private void swap() {
        seen.swap[number("swap", false, Desk::swap) & 15]++;
    }

    private void repeat(int c) {
        int answer = number("repeat " + c, true, d -> d.repeat(c));
        if (answer >= 0) {
            seen.repeat[answer]++;
        }
    }

    /** A loaded class if a few tries find one, else any number. */
    private int likelyClass() {
        for (int i = 0; i < 6 && !chance(3); i++) {
            int c = pick(0, 5);
            if (model.edition(c) > 0) {
                return c;
            }
        }
        return about(0, 5);
    }

    private void anyInstruction(int own) {
        if (chance(1)) {
            code(about(-1, 2), about(0, 5), pick(10, 13));
        } else if (chance(45)) {
            code(1, chance(50) ? own : likelyClass(), chance(95) ? pick(10, 11) : pick(9, 13));
        } else {
            code(0, chance(5) ? FAR[random.nextInt(4)] : pick(1, 99), pick(0, 13));
        }
    }

    private void loadNew() {
        int name = about(0, 5);
        blank();
        set(1, name);
        set(2, chance(40) ? -1 : likelyClass());
        if (chance(5)) {
            set(0, about(1, 9));
        }
        for (int i = pick(0, 2); i > 0; i--) {
            implement(chance(95) ? i : pick(1, 3));
        }
        for (int i = pick(0, 2); i > 0; i--) {
            field(chance(95) ? i : pick(1, 3), pick(0, 1), pick(0, 1));
        }
        for (int m = 0; m <= pick(1, 2); m++) {
            method(chance(95) ? 10 + m : pick(10, 13), pick(0, 1));
            for (int i = pick(0, 4); i > 0; i--) {
                anyInstruction(name);
            }
        }
        load();
    }

    private void queueEdited() {
        int c = likelyClass();
        PlainModel.Definition old = model.current(c);
        if (old != null && chance(30)) {
            rewrite(old);
        } else {
            taken("copy", d -> d.copy(c));
        }
        if (chance(60)) {
            choose(about(0, 2));
            for (int i = pick(0, 4); i > 0; i--) {
                anyInstruction(c);
            }
        }
        if (chance(10)) {
            addTooMuch();
        }
        int target = chance(97) ? c : likelyClass();
        taken("queue", d -> d.queue(target));
    }

    private void addTooMuch() {
        switch (random.nextInt(4)) {
            case 0:
                set(about(0, 4), about(0, 9));
                break;
            case 1:
                implement(pick(1, 8));
                break;
            case 2:
                field(pick(1, 8), 0, 0);
                break;
            default:
                method(pick(10, 14), 0);
                break;
        }
    }

    /** Writes a definition once more, backwards where the rules allow it, at times with a slip. */
    private void rewrite(PlainModel.Definition old) {
        blank();
        for (int part = 0; part < 5; part++) {
            set(part, chance(3) ? about(0, 5) : old.parts().get(part));
        }
        for (int i = old.interfaces().size() - 1; i >= 0; i--) {
            implement(chance(3) ? pick(1, 8) : old.interfaces().get(i));
        }
        for (PlainModel.Field one : old.fields()) {
            field(one.name(), one.type(), chance(3) ? 9 : one.flags());
        }
        for (int i = old.methods().size() - 1; i >= 0; i--) {
            PlainModel.Method one = old.methods().get(i);
            if (!chance(4)) {
                method(one.name(), chance(4) ? 9 : one.flags());
                one.code().forEach(x -> code(x.op(), x.a(), x.b()));
            }
        }
    }

    private void changeTransformers() {
        if (chance(40)) {
            int kind = about(0, 4);
            int value = kind == 2 ? pick(0, 1) : pick(9, 13);
            int only = chance(30) ? -1 : about(0, 5);
            boolean repeats = chance(50);
            number("transformer", false, d -> d.transformer(kind, value, only, repeats));
        } else {
            int k = about(0, 4);
            taken("remove", d -> d.remove(k));
        }
    }

    private void runThreads() {
        int t = about(0, 2);
        int c = likelyClass();
        int m = about(10, 12);
        taken("start", d -> d.start(t, c, m));
        int other = about(0, 2);
        int n = chance(10) ? about(0, 100) : pick(0, 6);
        number("step", false, d -> d.step(other, n));
    }

    private void anyCall() {
        switch (random.nextInt(5)) {
            case 0:
                load();
                break;
            case 1:
                swap();
                break;
            case 2:
                choose(about(0, 3));
                break;
            case 3:
                anyInstruction(likelyClass());
                break;
            default:
                set(about(0, 4), about(-1, 9));
                break;
        }
    }

    /** What can be seen without a change; it is not counted as part of the run. */
    private void look() {
        for (int c = -1; c <= 6; c++) {
            int kept = model.kept(c);
            check.same(where + "edition", desk.edition(c), model.edition(c));
            check.same(where + "kept", desk.kept(c), kept);
            check.same(where + "kept (spared)", spared.kept(c), kept);
            seen.kept = Math.max(seen.kept, kept);
        }
        for (int t = -1; t <= 3; t++) {
            check.same(where + "result", desk.result(t), model.result(t));
            check.same(where + "result (spared)", spared.result(t), model.result(t));
            for (int k = -1; k <= 5; k++) {
                int frame = model.frame(t, k);
                check.same(where + "frame", desk.frame(t, k), frame);
                check.same(where + "frame (spared)", spared.frame(t, k), frame);
                seen.frames = Math.max(seen.frames, frame == HotEditions.NONE ? 0 : k + 1);
            }
        }
    }
}
