/** The program behind the interface that it shares with its model. */
final class RealDesk implements Desk {
    private final HotEditions desk = new HotEditions();

    @Override
    public void blank() {
        desk.blank();
    }

    @Override
    public boolean copy(int c) {
        return desk.copy(c);
    }

    @Override
    public boolean set(int part, int value) {
        return desk.set(part, value);
    }

    @Override
    public boolean implement(int i) {
        return desk.implement(i);
    }

    @Override
    public boolean field(int name, int type, int flags) {
        return desk.field(name, type, flags);
    }

    @Override
    public boolean method(int name, int flags) {
        return desk.method(name, flags);
    }

    @Override
    public boolean choose(int k) {
        return desk.choose(k);
    }

    @Override
    public boolean code(int op, int a, int b) {
        return desk.code(op, a, b);
    }

    @Override
    public int load() {
        return desk.load();
    }

    @Override
    public int transformer(int kind, int value, int only, boolean repeats) {
        return desk.transformer(kind, value, only, repeats);
    }

    @Override
    public boolean remove(int k) {
        return desk.remove(k);
    }

    @Override
    public boolean queue(int c) {
        return desk.queue(c);
    }

    @Override
    public int swap() {
        return desk.swap();
    }

    @Override
    public int repeat(int c) {
        return desk.repeat(c);
    }

    @Override
    public boolean start(int t, int c, int m) {
        return desk.start(t, c, m);
    }

    @Override
    public int step(int t, int n) {
        return desk.step(t, n);
    }

    @Override
    public int frame(int t, int k) {
        return desk.frame(t, k);
    }

    @Override
    public int result(int t) {
        return desk.result(t);
    }

    @Override
    public int edition(int c) {
        return desk.edition(c);
    }

    @Override
    public int kept(int c) {
        return desk.kept(c);
    }
}
