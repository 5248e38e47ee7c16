/** Many random runs: every answer must be that of PlainModel, and refused calls must not count. */
final class ModelTest {
    private static final int RUNS = 3000;
    private static final int OFTEN = 50;

    public static void main(String[] args) {
        Cases.run(ModelTest.class);
    }

    static void everyAnswerIsTheModels(Check check) {
        RandomRun.Seen seen = new RandomRun.Seen();
        for (int seed = 0; seed < RUNS; seed++) {
            new RandomRun(seed, check, seen).play();
        }
        seenOften(check, "load", seen.load, 0, 1, 2, 3, 4, 5, 13);
        seenOften(check, "swap", seen.swap, 0, 1, 2, 3, 4, 5, 6, 7, 8, 9, 10, 11, 12);
        seenOften(check, "repeat", seen.repeat, 0, 2, 4, 8, 10);
        check.yes("many editions were kept", seen.kept >= 5);
        check.same("frames of the deepest thread", seen.frames, 5);
    }

    private static void seenOften(Check check, String what, int[] seen, int... codes) {
        for (int code : codes) {
            check.yes(what + " gave " + code + " often", seen[code] >= OFTEN);
        }
    }
}
