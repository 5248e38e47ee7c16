/** The calls of the document, as the program and its model both have them. */
interface Desk {
    void blank();

    boolean copy(int c);

    boolean set(int part, int value);

    boolean implement(int i);

    boolean field(int name, int type, int flags);

    boolean method(int name, int flags);

    boolean choose(int k);

    boolean code(int op, int a, int b);

    int load();

    int transformer(int kind, int value, int only, boolean repeats);

    boolean remove(int k);

    boolean queue(int c);

    int swap();

    int repeat(int c);

    boolean start(int t, int c, int m);

    int step(int t, int n);

    int frame(int t, int k);

    int result(int t);

    int edition(int c);

    int kept(int c);
}
