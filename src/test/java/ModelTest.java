import java.util.Arrays;
import java.util.Random;

/** Long runs of calls on the program and on PlainModel: every answer must be the same. */
final class ModelTest {
    private static final Check CHECK = new Check();
    private static final int RUNS = 3000;
    private static final int CALLS = 512;
    private static final int[] FAR = {Integer.MIN_VALUE, Integer.MAX_VALUE, -2, 1 << 30};

    private final HotEditions desk = new HotEditions();
    private final PlainModel model = new PlainModel();
    private final Random random;
    private final String where;
    private int calls = 0;

    /** How often load, swap and repeat gave each code, so that a dull run is seen. */
    private static final int[][] SEEN = new int[3][14];
    private static int mostKept = 0;
    private static int deepest = 0;

    private ModelTest(int seed) {
        random = new Random(seed);
        where = "run " + seed + " ";
    }

    public static void main(String[] args) {
        for (int seed = 0; seed < RUNS; seed++) {
            ModelTest test = new ModelTest(seed);
            while (test.calls < CALLS) {
                test.act();
            }
        }
        System.out.println("seen " + Arrays.deepToString(SEEN) + ", kept " + mostKept);
        everythingWasSeen();
        CHECK.end();
    }

    private static void everythingWasSeen() {
        for (int code = 0; code <= 5; code++) {
            CHECK.yes("load gave " + code + " often", SEEN[0][code] >= 50);
        }
        CHECK.yes("load gave 13 often", SEEN[0][13] >= 50);
        for (int code = 0; code <= 12; code++) {
            CHECK.yes("swap gave " + code + " often", SEEN[1][code] >= 50);
        }
        int[] repeats = {0, 2, 4, 8, 10};
        for (int code : repeats) {
            CHECK.yes("repeat gave " + code + " often", SEEN[2][code] >= 50);
        }
        CHECK.yes("many editions were kept", mostKept >= 5);
        CHECK.yes("threads went deep", deepest == 5);
    }

    private boolean chance(int percent) {
        return random.nextInt(100) < percent;
    }

    private int pick(int from, int to) {
        return from + random.nextInt(to - from + 1);
    }

    /** A number of a range, at times one just outside it, seldom one far off. */
    private int about(int from, int to) {
        if (chance(1)) {
            return FAR[random.nextInt(FAR.length)];
        }
        return chance(6) ? pick(from - 1, to + 1) : pick(from, to);
    }

    private void act() {
        int dice = random.nextInt(100);
        if (dice < 12) {
            loadNew();
        } else if (dice < 40) {
            for (int i = pick(1, 3); i > 0; i--) {
                queueEdited();
            }
            if (chance(85)) {
                swap();
            }
        } else if (dice < 50) {
            int c = likelyClass();
            int answer = desk.repeat(c);
            expect("repeat " + c, answer, model.repeat(c));
            if (answer >= 0) {
                SEEN[2][answer]++;
            }
        } else if (dice < 60) {
            changeTransformers();
        } else if (dice < 90) {
            runThreads();
        } else {
            anyCall();
        }
        look();
    }

    private void expect(String what, int got, int want) {
        calls++;
        CHECK.same(where + what, got, want);
    }

    private void expect(String what, boolean got, boolean want) {
        expect(what, got ? 1 : 0, want ? 1 : 0);
    }

    private void blank() {
        calls++;
        desk.blank();
        model.blank();
    }

    private void copy(int c) {
        expect("copy", desk.copy(c), model.copy(c));
    }

    private void set(int part, int value) {
        expect("set", desk.set(part, value), model.set(part, value));
    }

    private void implement(int i) {
        expect("implement", desk.implement(i), model.implement(i));
    }

    private void field(int name, int type, int flags) {
        expect("field", desk.field(name, type, flags), model.field(name, type, flags));
    }

    private void method(int name, int flags) {
        expect("method", desk.method(name, flags), model.method(name, flags));
    }

    private void choose(int k) {
        expect("choose", desk.choose(k), model.choose(k));
    }

    private void code(int op, int a, int b) {
        expect("code", desk.code(op, a, b), model.code(op, a, b));
    }

    private void swap() {
        int answer = desk.swap();
        expect("swap", answer, model.swap());
        SEEN[1][answer & 15]++;
    }

    private void load() {
        int answer = desk.load();
        expect("load", answer, model.load());
        SEEN[0][answer]++;
    }

    /** A loaded class if a few tries find one, else any number. */
    private int likelyClass() {
        for (int i = 0; i < 6 && !chance(3); i++) {
            int c = pick(0, 5);
            if (model.edition(c) > 0) {
                return c;
            }
        }
        return about(0, 5);
    }

    private void anyInstruction(int own) {
        if (chance(1)) {
            code(about(-1, 2), about(0, 5), pick(10, 13));
        } else if (chance(45)) {
            code(1, chance(50) ? own : likelyClass(), chance(95) ? pick(10, 11) : pick(9, 13));
        } else {
            code(0, chance(5) ? FAR[random.nextInt(4)] : pick(1, 99), pick(0, 13));
        }
    }

    private void loadNew() {
        int name = about(0, 5);
        blank();
        set(1, name);
        set(2, chance(40) ? -1 : likelyClass());
        if (chance(5)) {
            set(0, about(1, 9));
        }
        for (int i = pick(0, 2); i > 0; i--) {
            implement(chance(95) ? i : pick(1, 3));
        }
        for (int i = pick(0, 2); i > 0; i--) {
            field(chance(95) ? i : pick(1, 3), pick(0, 1), pick(0, 1));
        }
        for (int m = 0; m <= pick(1, 2); m++) {
            method(chance(95) ? 10 + m : pick(10, 13), pick(0, 1));
            for (int i = pick(0, 4); i > 0; i--) {
                anyInstruction(name);
            }
        }
        load();
    }

    private void queueEdited() {
        int c = likelyClass();
        PlainModel.Definition old = model.current(c);
        if (old != null && chance(30)) {
            rewrite(old);
        } else {
            copy(c);
        }
        if (chance(60)) {
            choose(about(0, 2));
            for (int i = pick(0, 4); i > 0; i--) {
                anyInstruction(c);
            }
        }
        if (chance(10)) {
            addTooMuch();
        }
        int target = chance(97) ? c : likelyClass();
        expect("queue", desk.queue(target), model.queue(target));
    }

    private void addTooMuch() {
        switch (random.nextInt(4)) {
            case 0:
                set(about(0, 4), about(0, 9));
                break;
            case 1:
                implement(pick(1, 8));
                break;
            case 2:
                field(pick(1, 8), 0, 0);
                break;
            default:
                method(pick(10, 14), 0);
                break;
        }
    }

    /** Writes a definition once more, backwards where the rules allow it, at times with a slip. */
    private void rewrite(PlainModel.Definition old) {
        blank();
        for (int part = 0; part < 5; part++) {
            set(part, chance(3) ? about(0, 5) : old.parts().get(part));
        }
        for (int i = old.interfaces().size() - 1; i >= 0; i--) {
            implement(chance(3) ? pick(1, 8) : old.interfaces().get(i));
        }
        for (PlainModel.Field one : old.fields()) {
            field(one.name(), one.type(), chance(3) ? 9 : one.flags());
        }
        for (int i = old.methods().size() - 1; i >= 0; i--) {
            PlainModel.Method one = old.methods().get(i);
            if (!chance(4)) {
                method(one.name(), chance(4) ? 9 : one.flags());
                one.code().forEach(x -> code(x.op(), x.a(), x.b()));
            }
        }
    }

    private void changeTransformers() {
        if (chance(40)) {
            int kind = about(0, 4);
            int value = kind == 2 ? pick(0, 1) : pick(9, 13);
            int only = chance(30) ? -1 : about(0, 5);
            boolean repeats = chance(50);
            expect("transformer", desk.transformer(kind, value, only, repeats),
                    model.transformer(kind, value, only, repeats));
        } else {
            int k = about(0, 4);
            expect("remove", desk.remove(k), model.remove(k));
        }
    }

    private void runThreads() {
        int t = about(0, 2);
        int c = likelyClass();
        int m = about(10, 12);
        expect("start", desk.start(t, c, m), model.start(t, c, m));
        int other = about(0, 2);
        int n = chance(10) ? about(0, 100) : pick(0, 6);
        expect("step", desk.step(other, n), model.step(other, n));
    }

    private void anyCall() {
        switch (random.nextInt(5)) {
            case 0:
                load();
                break;
            case 1:
                swap();
                break;
            case 2:
                choose(about(0, 3));
                break;
            case 3:
                anyInstruction(likelyClass());
                break;
            default:
                set(about(0, 4), about(-1, 9));
                break;
        }
    }

    /** What can be seen without a change; it is not counted as part of the run. */
    private void look() {
        int before = calls;
        for (int c = -1; c <= 6; c++) {
            expect("edition " + c, desk.edition(c), model.edition(c));
            expect("kept " + c, desk.kept(c), model.kept(c));
            mostKept = Math.max(mostKept, model.kept(c));
        }
        for (int t = -1; t <= 3; t++) {
            expect("result " + t, desk.result(t), model.result(t));
            for (int k = -1; k <= 5; k++) {
                expect("frame " + t + " " + k, desk.frame(t, k), model.frame(t, k));
                deepest = Math.max(deepest, model.frame(t, k) == -1 ? 0 : k + 1);
            }
        }
        calls = before;
    }
}
