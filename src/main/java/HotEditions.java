/**
 * A desk that changes the code of classes while calls are running.
 *
 * All rows are made in constructors and filled again and again: a call copies numbers between
 * them and keeps no reference to another's row, so nothing that is taken over can change later.
 */
public final class HotEditions {
    public static final int NONE = -1;

    private static final int FORMAT = 0;
    private static final int NAME = 1;
    private static final int SUPER = 2;
    private static final int FLAGS = 3;
    private static final int HOST = 4;
    private static final int PARTS = 5;

    private static final int LEAST_FORMAT = 1;
    private static final int MOST_FORMAT = 9;

    private static final int INTERFACE_ROOM = 3;
    private static final int FIELD_ROOM = 4;
    private static final int METHOD_ROOM = 4;
    private static final int CODE_ROOM = 6;
    private static final int CLASS_ROOM = 6;
    private static final int TRANSFORMER_ROOM = 5;
    private static final int BATCH_ROOM = 3;
    private static final int THREAD_ROOM = 3;
    private static final int FRAME_ROOM = 5;
    private static final int MOST_STEPS = 100;

    private static final int OP_ADD = 0;
    private static final int OP_CALL = 1;

    private static final int ALL_KEPT = 0;
    private static final int WRONG_NAME = 5;
    private static final int LOADED_ALREADY = 13;
    private static final int CLASS_WEIGHT = 16;
    private static final int EDITION_WEIGHT = 8;

    private final Definition draft = new Definition();
    private int chosen = NONE;
    private final Shelf shelf = new Shelf();
    private final Chain chain = new Chain();
    private final Trial[] batch = new Trial[BATCH_ROOM];
    private int batchSize = 0;
    /** Apart from the batch, since load and repeat come while definitions wait there. */
    private final Trial single = new Trial();
    private final Calls[] threads = new Calls[THREAD_ROOM];

    public HotEditions() {
        for (int i = 0; i < BATCH_ROOM; i++) {
            batch[i] = new Trial();
        }
        for (int t = 0; t < THREAD_ROOM; t++) {
            threads[t] = new Calls();
        }
    }

    public void blank() {
        draft.clear();
        chosen = NONE;
    }

    public boolean copy(int c) {
        LoadedClass loaded = shelf.find(c);
        if (loaded == null) {
            return false;
        }
        draft.become(loaded.current);
        chosen = NONE;
        return true;
    }

    public boolean set(int part, int value) {
        if (part < 0 || part >= PARTS) {
            return false;
        }
        draft.parts[part] = value;
        return true;
    }

    public boolean implement(int i) {
        return draft.addInterface(i);
    }

    public boolean field(int name, int type, int flags) {
        return draft.addField(name, type, flags);
    }

    public boolean method(int name, int flags) {
        if (!draft.addMethod(name, flags)) {
            return false;
        }
        chosen = draft.methodCount - 1;
        return true;
    }

    public boolean choose(int k) {
        if (k < 0 || k >= draft.methodCount) {
            return false;
        }
        chosen = k;
        draft.methods[k].body.clear();
        return true;
    }

    public boolean code(int op, int a, int b) {
        if (chosen == NONE) {
            return false;
        }
        return draft.methods[chosen].body.add(op, a, b);
    }

    public int load() {
        int c = draft.parts[NAME];
        single.take(draft, c);
        chain.treat(single);
        int broken = Rules.firstBrokenAlone(single.form, shelf);
        if (broken != ALL_KEPT) {
            return broken;
        }
        if (!isClass(c)) {
            return WRONG_NAME;
        }
        if (shelf.find(c) != null) {
            return LOADED_ALREADY;
        }
        shelf.add(c, single);
        return ALL_KEPT;
    }

    public int transformer(int kind, int value, int only, boolean repeats) {
        return chain.put(kind, value, isClass(only) ? only : NONE, repeats);
    }

    public boolean remove(int k) {
        return chain.free(k);
    }

    public boolean queue(int c) {
        if (shelf.find(c) == null || batchSize >= BATCH_ROOM || isInBatch(c)) {
            return false;
        }
        batch[batchSize].take(draft, c);
        batchSize++;
        return true;
    }

    public int swap() {
        int answer = firstBrokenOfBatch();
        if (answer == ALL_KEPT) {
            installBatch();
        }
        batchSize = 0;
        return answer;
    }

    public int repeat(int c) {
        LoadedClass loaded = shelf.find(c);
        if (loaded == null) {
            return NONE;
        }
        single.take(loaded.original, c);
        chain.change(single.form, c, true);
        int broken = Rules.firstBroken(single.form, c, loaded.current, shelf);
        if (broken == ALL_KEPT) {
            loaded.addEdition(single.form);
        }
        return broken;
    }

    public boolean start(int t, int c, int m) {
        if (!isThread(t) || threads[t].depth != 0) {
            return false;
        }
        return threads[t].enter(c, m, shelf);
    }

    public int step(int t, int n) {
        if (!isThread(t) || n < 0 || n > MOST_STEPS) {
            return NONE;
        }
        int made = 0;
        while (made < n && threads[t].depth != 0) {
            threads[t].advance(shelf);
            made++;
        }
        return made;
    }

    public int frame(int t, int k) {
        Frame found = findFrame(t, k);
        return found == null ? NONE : EDITION_WEIGHT * found.edition + found.ofClass;
    }

    public int result(int t) {
        return isThread(t) ? threads[t].result : 0;
    }

    public int edition(int c) {
        LoadedClass loaded = shelf.find(c);
        return loaded == null ? 0 : loaded.edition;
    }

    public int kept(int c) {
        LoadedClass loaded = shelf.find(c);
        if (loaded == null) {
            return 0;
        }
        int count = 1;
        for (int t = 0; t < THREAD_ROOM; t++) {
            for (int k = 0; k < FRAME_ROOM; k++) {
                Frame found = findFrame(t, k);
                if (found != null && found.ofClass == c && found.edition != loaded.edition
                        && isFirstOfItsEdition(t, k, found)) {
                    count++;
                }
            }
        }
        return count;
    }

    private static boolean isClass(int c) {
        return c >= 0 && c < CLASS_ROOM;
    }

    private static boolean isThread(int t) {
        return t >= 0 && t < THREAD_ROOM;
    }

    private boolean isInBatch(int c) {
        for (int i = 0; i < batchSize; i++) {
            if (batch[i].target == c) {
                return true;
            }
        }
        return false;
    }

    private int firstBrokenOfBatch() {
        for (int i = 0; i < batchSize; i++) {
            Trial trial = batch[i];
            LoadedClass loaded = shelf.find(trial.target);
            if (loaded != null) {
                chain.treat(trial);
                int broken = Rules.firstBroken(trial.form, trial.target, loaded.current, shelf);
                if (broken != ALL_KEPT) {
                    return CLASS_WEIGHT * trial.target + broken;
                }
            }
        }
        return ALL_KEPT;
    }

    private void installBatch() {
        for (int i = 0; i < batchSize; i++) {
            LoadedClass loaded = shelf.find(batch[i].target);
            if (loaded != null) {
                loaded.addEdition(batch[i].form);
                loaded.original.become(batch[i].original);
            }
        }
    }

    private Frame findFrame(int t, int k) {
        if (!isThread(t) || k < 0 || k >= threads[t].depth) {
            return null;
        }
        return threads[t].frames[k];
    }

    private boolean isFirstOfItsEdition(int t, int k, Frame one) {
        for (int i = 0; i < t * FRAME_ROOM + k; i++) {
            Frame earlier = findFrame(i / FRAME_ROOM, i % FRAME_ROOM);
            if (earlier != null && earlier.ofClass == one.ofClass
                    && earlier.edition == one.edition) {
                return false;
            }
        }
        return true;
    }

    /** A list of instructions; the op and the two operands of one stand side by side. */
    private static final class Code {
        private static final int CELLS = 3;

        private final int[] cells = new int[CODE_ROOM * CELLS];
        private int length = 0;

        void clear() {
            length = 0;
        }

        void become(Code other) {
            length = other.length;
            System.arraycopy(other.cells, 0, cells, 0, length * CELLS);
        }

        boolean add(int op, int a, int b) {
            if (length >= CODE_ROOM) {
                return false;
            }
            cells[length * CELLS] = op;
            cells[length * CELLS + 1] = a;
            cells[length * CELLS + 2] = b;
            length++;
            return true;
        }

        int opAt(int i) {
            return cells[i * CELLS];
        }

        int firstOperandAt(int i) {
            return cells[i * CELLS + 1];
        }

        int secondOperandAt(int i) {
            return cells[i * CELLS + 2];
        }

        void raiseAdditions(int value) {
            for (int i = 0; i < length; i++) {
                if (opAt(i) == OP_ADD) {
                    cells[i * CELLS + 1] += value;
                }
            }
        }
    }

    private static final class Method {
        private int name = 0;
        private int flags = 0;
        private final Code body = new Code();

        void become(Method other) {
            name = other.name;
            flags = other.flags;
            body.become(other.body);
        }
    }

    private static final class Definition {
        private static final int FIELD_CELLS = 3;

        private final int[] parts = new int[PARTS];
        private final int[] interfaces = new int[INTERFACE_ROOM];
        private int interfaceCount = 0;
        /** The name, the type and the flags of a field stand side by side. */
        private final int[] fieldCells = new int[FIELD_ROOM * FIELD_CELLS];
        private int fieldCount = 0;
        private final Method[] methods = new Method[METHOD_ROOM];
        private int methodCount = 0;

        Definition() {
            for (int i = 0; i < METHOD_ROOM; i++) {
                methods[i] = new Method();
            }
            clear();
        }

        void clear() {
            parts[FORMAT] = 1;
            parts[NAME] = 0;
            parts[SUPER] = NONE;
            parts[FLAGS] = 0;
            parts[HOST] = 0;
            interfaceCount = 0;
            fieldCount = 0;
            methodCount = 0;
        }

        void become(Definition other) {
            System.arraycopy(other.parts, 0, parts, 0, PARTS);
            interfaceCount = other.interfaceCount;
            System.arraycopy(other.interfaces, 0, interfaces, 0, interfaceCount);
            fieldCount = other.fieldCount;
            System.arraycopy(other.fieldCells, 0, fieldCells, 0, fieldCount * FIELD_CELLS);
            methodCount = other.methodCount;
            for (int i = 0; i < methodCount; i++) {
                methods[i].become(other.methods[i]);
            }
        }

        boolean addInterface(int i) {
            if (interfaceCount >= INTERFACE_ROOM) {
                return false;
            }
            interfaces[interfaceCount] = i;
            interfaceCount++;
            return true;
        }

        boolean addField(int name, int type, int flags) {
            if (fieldCount >= FIELD_ROOM) {
                return false;
            }
            fieldCells[fieldCount * FIELD_CELLS] = name;
            fieldCells[fieldCount * FIELD_CELLS + 1] = type;
            fieldCells[fieldCount * FIELD_CELLS + 2] = flags;
            fieldCount++;
            return true;
        }

        boolean addMethod(int name, int flags) {
            if (methodCount >= METHOD_ROOM) {
                return false;
            }
            Method added = methods[methodCount];
            added.name = name;
            added.flags = flags;
            added.body.clear();
            methodCount++;
            return true;
        }

        Method findMethod(int name) {
            for (int i = 0; i < methodCount; i++) {
                if (methods[i].name == name) {
                    return methods[i];
                }
            }
            return null;
        }

        boolean hasInterface(int wanted) {
            for (int i = 0; i < interfaceCount; i++) {
                if (interfaces[i] == wanted) {
                    return true;
                }
            }
            return false;
        }

        boolean hasEqualInterfaces() {
            for (int i = 0; i < interfaceCount; i++) {
                for (int j = 0; j < i; j++) {
                    if (interfaces[i] == interfaces[j]) {
                        return true;
                    }
                }
            }
            return false;
        }

        boolean hasFieldsOfOneName() {
            for (int i = 0; i < fieldCount; i++) {
                for (int j = 0; j < i; j++) {
                    if (fieldCells[i * FIELD_CELLS] == fieldCells[j * FIELD_CELLS]) {
                        return true;
                    }
                }
            }
            return false;
        }

        boolean hasMethodsOfOneName() {
            for (int i = 0; i < methodCount; i++) {
                for (int j = 0; j < i; j++) {
                    if (methods[i].name == methods[j].name) {
                        return true;
                    }
                }
            }
            return false;
        }

        boolean hasFieldsOf(Definition other) {
            if (fieldCount != other.fieldCount) {
                return false;
            }
            for (int i = 0; i < fieldCount * FIELD_CELLS; i++) {
                if (fieldCells[i] != other.fieldCells[i]) {
                    return false;
                }
            }
            return true;
        }

        /** Takes it that neither has two equal ones: rule 2 stands before the rule that asks. */
        boolean hasInterfacesOf(Definition other) {
            if (interfaceCount != other.interfaceCount) {
                return false;
            }
            for (int i = 0; i < interfaceCount; i++) {
                if (!other.hasInterface(interfaces[i])) {
                    return false;
                }
            }
            return true;
        }

        boolean hasMethodNamesOf(Definition other) {
            for (int i = 0; i < other.methodCount; i++) {
                if (findMethod(other.methods[i].name) == null) {
                    return false;
                }
            }
            return true;
        }

        boolean hasMethodFlagsOf(Definition other) {
            for (int i = 0; i < other.methodCount; i++) {
                Method mine = findMethod(other.methods[i].name);
                if (mine != null && mine.flags != other.methods[i].flags) {
                    return false;
                }
            }
            return true;
        }
    }

    /** A class behind its loading, with its current edition; frames carry older code themselves. */
    private static final class LoadedClass {
        private int edition = 0;
        private final Definition current = new Definition();
        private final Definition original = new Definition();

        void addEdition(Definition form) {
            current.become(form);
            edition++;
        }
    }

    private static final class Shelf {
        private final LoadedClass[] places = new LoadedClass[CLASS_ROOM];

        LoadedClass find(int c) {
            return c >= 0 && c < CLASS_ROOM ? places[c] : null;
        }

        void add(int c, Trial trial) {
            if (!isClass(c)) {
                return;
            }
            LoadedClass added = new LoadedClass();
            added.addEdition(trial.form);
            added.original.become(trial.original);
            places[c] = added;
        }
    }

    /** A definition that is on its way to a class, and what its original would be. */
    private static final class Trial {
        private int target = NONE;
        private final Definition form = new Definition();
        private final Definition original = new Definition();

        void take(Definition source, int c) {
            form.become(source);
            target = c;
        }
    }

    private static final class Transformer {
        private static final int ADD_TO_OPERANDS = 1;
        private static final int SET_FLAGS = 2;
        private static final int EMPTY_ALL_CODE = 3;
        private static final int RENAME_FIRST_METHOD = 4;
        private static final int MOST_KIND = 4;

        private boolean present = false;
        private int kind = 0;
        private int value = 0;
        private int only = NONE;
        private boolean repeats = false;

        boolean isFor(int c) {
            return only == NONE || only == c;
        }

        void change(Definition d) {
            switch (kind) {
                case ADD_TO_OPERANDS:
                    for (int i = 0; i < d.methodCount; i++) {
                        d.methods[i].body.raiseAdditions(value);
                    }
                    break;
                case SET_FLAGS:
                    d.parts[FLAGS] = value;
                    break;
                case EMPTY_ALL_CODE:
                    if (d.findMethod(value) != null) {
                        emptyAllCode(d);
                    }
                    break;
                case RENAME_FIRST_METHOD:
                    if (d.methodCount > 0) {
                        d.methods[0].name = value;
                    }
                    break;
                default:
                    break;
            }
        }

        private static void emptyAllCode(Definition d) {
            for (int i = 0; i < d.methodCount; i++) {
                d.methods[i].body.clear();
            }
        }
    }

    private static final class Chain {
        private final Transformer[] links = new Transformer[TRANSFORMER_ROOM];

        Chain() {
            for (int k = 0; k < TRANSFORMER_ROOM; k++) {
                links[k] = new Transformer();
            }
        }

        int put(int kind, int value, int only, boolean repeats) {
            if (kind < 0 || kind > Transformer.MOST_KIND) {
                return NONE;
            }
            for (int k = 0; k < TRANSFORMER_ROOM; k++) {
                Transformer link = links[k];
                if (!link.present) {
                    link.present = true;
                    link.kind = kind;
                    link.value = value;
                    link.only = only;
                    link.repeats = repeats;
                    return k;
                }
            }
            return NONE;
        }

        boolean free(int k) {
            if (k < 0 || k >= TRANSFORMER_ROOM || !links[k].present) {
                return false;
            }
            links[k].present = false;
            return true;
        }

        void treat(Trial trial) {
            change(trial.form, trial.target, false);
            trial.original.become(trial.form);
            change(trial.form, trial.target, true);
        }

        void change(Definition d, int c, boolean repeating) {
            for (int k = 0; k < TRANSFORMER_ROOM; k++) {
                Transformer link = links[k];
                if (link.present && link.repeats == repeating && link.isFor(c)) {
                    link.change(d);
                }
            }
        }
    }

    /** The rules bear the document's numbers, and so do their answers. */
    private static final class Rules {
        static int firstBroken(Definition d, int c, Definition o, Shelf shelf) {
            int broken = firstBrokenAlone(d, shelf);
            return broken != ALL_KEPT ? broken : firstBrokenBeside(d, c, o);
        }

        static int firstBrokenAlone(Definition d, Shelf shelf) {
            if (d.parts[FORMAT] < LEAST_FORMAT || d.parts[FORMAT] > MOST_FORMAT) {
                return 1;
            }
            if (d.hasEqualInterfaces() || d.hasFieldsOfOneName() || d.hasMethodsOfOneName()
                    || hasUnknownOp(d)) {
                return 2;
            }
            if (meetsItselfAbove(d, shelf)) {
                return 3;
            }
            if (lacksSuper(d, shelf) || lacksCalledMethod(d, shelf)) {
                return 4;
            }
            return ALL_KEPT;
        }

        private static int firstBrokenBeside(Definition d, int c, Definition o) {
            if (d.parts[NAME] != c) {
                return WRONG_NAME;
            }
            if (d.parts[SUPER] != o.parts[SUPER] || !d.hasInterfacesOf(o)) {
                return 6;
            }
            if (!d.hasFieldsOf(o)) {
                return 7;
            }
            if (!o.hasMethodNamesOf(d)) {
                return 8;
            }
            if (!d.hasMethodNamesOf(o)) {
                return 9;
            }
            if (d.parts[FLAGS] != o.parts[FLAGS]) {
                return 10;
            }
            if (!d.hasMethodFlagsOf(o)) {
                return 11;
            }
            if (d.parts[HOST] != o.parts[HOST]) {
                return 12;
            }
            return ALL_KEPT;
        }

        private static boolean hasUnknownOp(Definition d) {
            for (int m = 0; m < d.methodCount; m++) {
                Code body = d.methods[m].body;
                for (int i = 0; i < body.length; i++) {
                    if (body.opAt(i) != OP_ADD && body.opAt(i) != OP_CALL) {
                        return true;
                    }
                }
            }
            return false;
        }

        /** A class is loaded behind its SUPER, so the way up never meets one class twice. */
        private static boolean meetsItselfAbove(Definition d, Shelf shelf) {
            int above = d.parts[SUPER];
            for (int i = 0; i <= CLASS_ROOM; i++) {
                if (above == d.parts[NAME]) {
                    return true;
                }
                LoadedClass loaded = shelf.find(above);
                if (loaded == null) {
                    return false;
                }
                above = loaded.current.parts[SUPER];
            }
            return false;
        }

        private static boolean lacksSuper(Definition d, Shelf shelf) {
            return d.parts[SUPER] != NONE && shelf.find(d.parts[SUPER]) == null;
        }

        private static boolean lacksCalledMethod(Definition d, Shelf shelf) {
            for (int m = 0; m < d.methodCount; m++) {
                Code body = d.methods[m].body;
                for (int i = 0; i < body.length; i++) {
                    if (body.opAt(i) == OP_CALL && !isCallable(d, body.firstOperandAt(i),
                            body.secondOperandAt(i), shelf)) {
                        return true;
                    }
                }
            }
            return false;
        }

        private static boolean isCallable(Definition d, int a, int b, Shelf shelf) {
            if (a == d.parts[NAME]) {
                return d.findMethod(b) != null;
            }
            LoadedClass loaded = shelf.find(a);
            return loaded != null && loaded.current.findMethod(b) != null;
        }
    }

    /** Has its own copy of the code, so that a later edition can't reach a call that runs. */
    private static final class Frame {
        private int ofClass = NONE;
        private int edition = 0;
        private final Code body = new Code();
        private int place = 0;
        private int sum = 0;

        void begin(int c, int number, Code source) {
            ofClass = c;
            edition = number;
            body.become(source);
            place = 0;
            sum = 0;
        }
    }

    /** The frames of one thread. */
    private static final class Calls {
        private final Frame[] frames = new Frame[FRAME_ROOM];
        private int depth = 0;
        private int result = 0;

        Calls() {
            for (int k = 0; k < FRAME_ROOM; k++) {
                frames[k] = new Frame();
            }
        }

        boolean enter(int c, int name, Shelf shelf) {
            LoadedClass loaded = shelf.find(c);
            if (depth >= FRAME_ROOM || loaded == null) {
                return false;
            }
            Method called = loaded.current.findMethod(name);
            if (called == null) {
                return false;
            }
            frames[depth].begin(c, loaded.edition, called.body);
            depth++;
            return true;
        }

        void advance(Shelf shelf) {
            if (depth == 0) {
                return;
            }
            Frame top = frames[depth - 1];
            if (top.place >= top.body.length) {
                leave(top.sum);
                return;
            }
            int i = top.place;
            top.place++;
            if (top.body.opAt(i) == OP_ADD) {
                top.sum += top.body.firstOperandAt(i);
            } else {
                enter(top.body.firstOperandAt(i), top.body.secondOperandAt(i), shelf);
            }
        }

        private void leave(int sum) {
            depth--;
            if (depth == 0) {
                result = sum;
            } else {
                frames[depth - 1].sum += sum;
            }
        }
    }
}
