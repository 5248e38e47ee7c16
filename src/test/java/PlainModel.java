import java.util.ArrayList;
import java.util.HashSet;
import java.util.List;
import java.util.Objects;
import java.util.Set;
import java.util.TreeMap;

/** The document told a second time, with values that never change and every edition held for ever. */
final class PlainModel implements Desk {
    record Instruction(int op, int a, int b) { }

    record Field(int name, int type, int flags) { }

    record Method(int name, int flags, List<Instruction> code) { }

    record Definition(List<Integer> parts, List<Integer> interfaces, List<Field> fields,
            List<Method> methods) {
        int format() {
            return parts.get(0);
        }

        int name() {
            return parts.get(1);
        }

        int above() {
            return parts.get(2);
        }

        int flags() {
            return parts.get(3);
        }

        int host() {
            return parts.get(4);
        }

        Method named(int name) {
            return methods.stream().filter(m -> m.name() == name).findFirst().orElse(null);
        }

        List<Instruction> allCode() {
            return methods.stream().flatMap(m -> m.code().stream()).toList();
        }

        Definition withParts(List<Integer> other) {
            return new Definition(other, interfaces, fields, methods);
        }

        Definition withMethods(List<Method> other) {
            return new Definition(parts, interfaces, fields, other);
        }
    }

    private static final Definition BLANK =
            new Definition(List.of(1, 0, -1, 0, 0), List.of(), List.of(), List.of());

    private record Transformer(int kind, int value, int only, boolean repeats) { }

    private record Treated(Definition original, Definition form) { }

    private record Queued(int target, Definition definition) { }

    private static final class Loaded {
        final List<Definition> editions = new ArrayList<>();
        Definition original;

        Definition current() {
            return editions.get(editions.size() - 1);
        }
    }

    private static final class Frame {
        int ofClass;
        int edition;
        int method;
        int place = 0;
        int sum = 0;
    }

    private Definition draft = BLANK;
    private Integer chosen = null;
    private final TreeMap<Integer, Loaded> classes = new TreeMap<>();
    private final Transformer[] transformers = new Transformer[5];
    private final List<Queued> batch = new ArrayList<>();
    private final List<List<Frame>> threads =
            List.of(new ArrayList<>(), new ArrayList<>(), new ArrayList<>());
    private final int[] results = new int[3];

    private static <T> List<T> with(List<T> list, int at, T value) {
        List<T> copy = new ArrayList<>(list);
        copy.set(at, value);
        return List.copyOf(copy);
    }

    private static <T> List<T> and(List<T> list, T value) {
        List<T> copy = new ArrayList<>(list);
        copy.add(value);
        return List.copyOf(copy);
    }

    @Override
    public void blank() {
        draft = BLANK;
        chosen = null;
    }

    @Override
    public boolean copy(int c) {
        if (!classes.containsKey(c)) {
            return false;
        }
        draft = classes.get(c).current();
        chosen = null;
        return true;
    }

    @Override
    public boolean set(int part, int value) {
        if (part < 0 || part > 4) {
            return false;
        }
        draft = draft.withParts(with(draft.parts(), part, value));
        return true;
    }

    @Override
    public boolean implement(int i) {
        if (draft.interfaces().size() == 3) {
            return false;
        }
        draft = new Definition(draft.parts(), and(draft.interfaces(), i), draft.fields(),
                draft.methods());
        return true;
    }

    @Override
    public boolean field(int name, int type, int flags) {
        if (draft.fields().size() == 4) {
            return false;
        }
        draft = new Definition(draft.parts(), draft.interfaces(),
                and(draft.fields(), new Field(name, type, flags)), draft.methods());
        return true;
    }

    @Override
    public boolean method(int name, int flags) {
        if (draft.methods().size() == 4) {
            return false;
        }
        chosen = draft.methods().size();
        draft = draft.withMethods(and(draft.methods(), new Method(name, flags, List.of())));
        return true;
    }

    private void setCode(int k, List<Instruction> code) {
        Method old = draft.methods().get(k);
        draft = draft.withMethods(
                with(draft.methods(), k, new Method(old.name(), old.flags(), code)));
    }

    @Override
    public boolean choose(int k) {
        if (k < 0 || k >= draft.methods().size()) {
            return false;
        }
        chosen = k;
        setCode(k, List.of());
        return true;
    }

    @Override
    public boolean code(int op, int a, int b) {
        if (chosen == null || draft.methods().get(chosen).code().size() == 6) {
            return false;
        }
        setCode(chosen, and(draft.methods().get(chosen).code(), new Instruction(op, a, b)));
        return true;
    }

    @Override
    public int load() {
        int c = draft.name();
        Treated treated = treat(draft, c);
        int broken = brokenAlone(treated.form());
        if (broken != 0) {
            return broken;
        }
        if (c < 0 || c > 5) {
            return 5;
        }
        if (classes.containsKey(c)) {
            return 13;
        }
        Loaded loaded = new Loaded();
        loaded.editions.add(treated.form());
        loaded.original = treated.original();
        classes.put(c, loaded);
        return 0;
    }

    @Override
    public int transformer(int kind, int value, int only, boolean repeats) {
        for (int k = 0; k < 5 && kind >= 0 && kind <= 4; k++) {
            if (transformers[k] == null) {
                transformers[k] = new Transformer(kind, value, only, repeats);
                return k;
            }
        }
        return -1;
    }

    @Override
    public boolean remove(int k) {
        if (k < 0 || k > 4 || transformers[k] == null) {
            return false;
        }
        transformers[k] = null;
        return true;
    }

    @Override
    public boolean queue(int c) {
        if (!classes.containsKey(c) || batch.size() == 3
                || batch.stream().anyMatch(q -> q.target() == c)) {
            return false;
        }
        batch.add(new Queued(c, draft));
        return true;
    }

    @Override
    public int swap() {
        List<Treated> all = new ArrayList<>();
        List<Queued> taken = List.copyOf(batch);
        batch.clear();
        for (Queued queued : taken) {
            Treated treated = treat(queued.definition(), queued.target());
            int broken = broken(treated.form(), queued.target());
            if (broken != 0) {
                return 16 * queued.target() + broken;
            }
            all.add(treated);
        }
        for (int i = 0; i < all.size(); i++) {
            Loaded loaded = classes.get(taken.get(i).target());
            loaded.editions.add(all.get(i).form());
            loaded.original = all.get(i).original();
        }
        return 0;
    }

    @Override
    public int repeat(int c) {
        if (!classes.containsKey(c)) {
            return -1;
        }
        Definition form = changed(classes.get(c).original, c, true);
        int broken = broken(form, c);
        if (broken == 0) {
            classes.get(c).editions.add(form);
        }
        return broken;
    }

    private boolean push(int t, int c, int name) {
        Loaded loaded = classes.get(c);
        if (loaded == null || loaded.current().named(name) == null) {
            return false;
        }
        Frame frame = new Frame();
        frame.ofClass = c;
        frame.edition = loaded.editions.size();
        frame.method = loaded.current().methods().indexOf(loaded.current().named(name));
        threads.get(t).add(frame);
        return true;
    }

    @Override
    public boolean start(int t, int c, int m) {
        return t >= 0 && t <= 2 && threads.get(t).isEmpty() && push(t, c, m);
    }

    @Override
    public int step(int t, int n) {
        if (t < 0 || t > 2 || n < 0 || n > 100) {
            return -1;
        }
        int made = 0;
        for (; made < n && !threads.get(t).isEmpty(); made++) {
            stepOnce(t);
        }
        return made;
    }

    private void stepOnce(int t) {
        List<Frame> frames = threads.get(t);
        Frame top = frames.get(frames.size() - 1);
        List<Instruction> code = classes.get(top.ofClass).editions.get(top.edition - 1)
                .methods().get(top.method).code();
        if (top.place == code.size()) {
            frames.remove(frames.size() - 1);
            if (frames.isEmpty()) {
                results[t] = top.sum;
            } else {
                frames.get(frames.size() - 1).sum += top.sum;
            }
            return;
        }
        Instruction next = code.get(top.place++);
        if (next.op() == 0) {
            top.sum += next.a();
        } else if (frames.size() < 5 && !push(t, next.a(), next.b())) {
            throw new IllegalStateException("the rules let a call through that has no method");
        }
    }

    @Override
    public int frame(int t, int k) {
        if (t < 0 || t > 2 || k < 0 || k >= threads.get(t).size()) {
            return -1;
        }
        return 8 * threads.get(t).get(k).edition + threads.get(t).get(k).ofClass;
    }

    @Override
    public int result(int t) {
        return t < 0 || t > 2 ? 0 : results[t];
    }

    @Override
    public int edition(int c) {
        return classes.containsKey(c) ? classes.get(c).editions.size() : 0;
    }

    @Override
    public int kept(int c) {
        if (!classes.containsKey(c)) {
            return 0;
        }
        Set<Integer> kept = new HashSet<>();
        kept.add(edition(c));
        threads.forEach(frames -> frames.stream().filter(f -> f.ofClass == c)
                .forEach(f -> kept.add(f.edition)));
        return kept.size();
    }

    /** For tests that write a definition again; null if c is no loaded class. */
    Definition current(int c) {
        return classes.containsKey(c) ? classes.get(c).current() : null;
    }

    private Treated treat(Definition d, int c) {
        Definition original = changed(d, c, false);
        return new Treated(original, changed(original, c, true));
    }

    private Definition changed(Definition d, int c, boolean repeating) {
        Definition form = d;
        for (Transformer one : transformers) {
            boolean every = one != null && (one.only() < 0 || one.only() > 5);
            if (one != null && one.repeats() == repeating && (every || one.only() == c)) {
                form = changedBy(one, form);
            }
        }
        return form;
    }

    private static Definition changedBy(Transformer one, Definition d) {
        switch (one.kind()) {
            case 1:
                return d.withMethods(d.methods().stream().map(m -> new Method(m.name(), m.flags(),
                        m.code().stream().map(i -> i.op() == 0
                                ? new Instruction(0, i.a() + one.value(), i.b()) : i).toList()))
                        .toList());
            case 2:
                return d.withParts(with(d.parts(), 3, one.value()));
            case 3:
                return d.named(one.value()) == null ? d : d.withMethods(d.methods().stream()
                        .map(m -> new Method(m.name(), m.flags(), List.of())).toList());
            case 4:
                if (d.methods().isEmpty()) {
                    return d;
                }
                Method first = d.methods().get(0);
                return d.withMethods(with(d.methods(), 0,
                        new Method(one.value(), first.flags(), first.code())));
            default:
                return d;
        }
    }

    private static boolean distinct(List<Integer> list) {
        return new HashSet<>(list).size() == list.size();
    }

    private int brokenAlone(Definition d) {
        if (d.format() < 1 || d.format() > 9) {
            return 1;
        }
        if (!distinct(d.interfaces()) || !distinct(d.fields().stream().map(Field::name).toList())
                || !distinct(d.methods().stream().map(Method::name).toList())
                || d.allCode().stream().anyMatch(i -> i.op() != 0 && i.op() != 1)) {
            return 2;
        }
        int above = d.above();
        while (above != d.name() && classes.containsKey(above)) {
            above = classes.get(above).current().above();
        }
        if (above == d.name()) {
            return 3;
        }
        if (d.above() != -1 && !classes.containsKey(d.above())
                || d.allCode().stream().anyMatch(i -> i.op() == 1 && !canCall(d, i))) {
            return 4;
        }
        return 0;
    }

    private boolean canCall(Definition d, Instruction i) {
        if (i.a() == d.name()) {
            return d.named(i.b()) != null;
        }
        return classes.containsKey(i.a()) && classes.get(i.a()).current().named(i.b()) != null;
    }

    private int broken(Definition d, int c) {
        Definition o = classes.get(c).current();
        int alone = brokenAlone(d);
        if (alone != 0) {
            return alone;
        }
        boolean[] later = {
            d.name() != c,
            d.above() != o.above()
                    || !d.interfaces().stream().sorted().toList()
                            .equals(o.interfaces().stream().sorted().toList()),
            !Objects.equals(d.fields(), o.fields()),
            d.methods().stream().anyMatch(m -> o.named(m.name()) == null),
            o.methods().stream().anyMatch(m -> d.named(m.name()) == null),
            d.flags() != o.flags(),
            d.methods().stream().anyMatch(m -> o.named(m.name()) != null
                    && o.named(m.name()).flags() != m.flags()),
            d.host() != o.host()
        };
        for (int i = 0; i < later.length; i++) {
            if (later[i]) {
                return 5 + i;
            }
        }
        return 0;
    }
}
