import com.sun.management.ThreadMXBean;
import java.lang.management.ManagementFactory;
import java.lang.reflect.Array;
import java.lang.reflect.Field;
import java.lang.reflect.Modifier;
import java.util.ArrayDeque;
import java.util.Collections;
import java.util.Deque;
import java.util.IdentityHashMap;
import java.util.Set;

/** What an object takes of the room in which all calls of one run live. */
final class RoomTest {
    /** So little that a thousand objects, with all their classes loaded, fit into one room. */
    private static final int MOST_OBJECTS = 600;
    private static final int MOST_ELEMENTS = 7300;

    private static final int ROUNDS = 2000;

    public static void main(String[] args) {
        Cases.run(RoomTest.class);
    }

    static void fullObjectIsSmall(Check check) throws IllegalAccessException {
        Set<Object> held = heldBy(full());
        long elements = 0;
        for (Object one : held) {
            elements += size(one);
        }
        check.yes("objects " + held.size(), held.size() <= MOST_OBJECTS);
        check.yes("elements " + elements, elements <= MOST_ELEMENTS);
    }

    static void callsKeepNothing(Check check) throws IllegalAccessException {
        HotEditions desk = full();
        int before = heldBy(desk).size();
        for (int i = 0; i < ROUNDS; i++) {
            callAllButLoad(desk);
        }
        check.same("objects", heldBy(desk).size(), before);
    }

    static void onlyLoadingMakesObjects(Check check) {
        HotEditions desk = full();
        ThreadMXBean threads = (ThreadMXBean) ManagementFactory.getThreadMXBean();
        callAllButLoad(desk);
        threads.getCurrentThreadAllocatedBytes();
        long before = threads.getCurrentThreadAllocatedBytes();
        for (int i = 0; i < ROUNDS; i++) {
            callAllButLoad(desk);
        }
        long made = threads.getCurrentThreadAllocatedBytes() - before;
        // The least object has 16 bytes; what the machine makes by itself stays far under that.
        check.yes("bytes of " + ROUNDS + " rounds: " + made, made < 16L * ROUNDS);
    }

    private static HotEditions full() {
        HotEditions desk = new HotEditions();
        for (int c = 0; c < 6; c++) {
            Desks.draftFull(desk, c, 3);
            desk.load();
        }
        return desk;
    }

    private static void callAllButLoad(HotEditions desk) {
        Desks.draftFull(desk, 0, 3);
        desk.load();
        desk.transformer(1, 1, HotEditions.NONE, true);
        for (int c = 0; c < 3; c++) {
            desk.copy(c);
            desk.choose(0);
            desk.code(1, c, 10);
            desk.queue(c);
        }
        desk.start(0, 0, 10);
        desk.step(0, 3);
        desk.swap();
        desk.repeat(4);
        desk.remove(0);
        desk.step(0, 100);
        for (int i = 0; i < 6; i++) {
            desk.frame(0, i);
            desk.result(i);
            desk.edition(i);
            desk.kept(i);
        }
    }

    private static Set<Object> heldBy(HotEditions desk) throws IllegalAccessException {
        Set<Object> held = Collections.newSetFromMap(new IdentityHashMap<>());
        Deque<Object> left = new ArrayDeque<>();
        held.add(desk);
        left.add(desk);
        while (!left.isEmpty()) {
            for (Object part : partsOf(left.remove())) {
                if (held.add(part)) {
                    left.add(part);
                }
            }
        }
        return held;
    }

    private static Deque<Object> partsOf(Object one) throws IllegalAccessException {
        Deque<Object> parts = new ArrayDeque<>();
        if (one instanceof Object[] row) {
            for (Object part : row) {
                addIfThere(parts, part);
            }
        } else if (!one.getClass().isArray()) {
            for (Field field : one.getClass().getDeclaredFields()) {
                if (!Modifier.isStatic(field.getModifiers()) && !field.getType().isPrimitive()) {
                    field.setAccessible(true);
                    addIfThere(parts, field.get(one));
                }
            }
        }
        return parts;
    }

    private static void addIfThere(Deque<Object> parts, Object part) {
        if (part != null) {
            parts.add(part);
        }
    }

    private static int size(Object one) {
        if (one.getClass().isArray()) {
            return Array.getLength(one);
        }
        int fields = 0;
        for (Field field : one.getClass().getDeclaredFields()) {
            if (!Modifier.isStatic(field.getModifiers())) {
                fields++;
            }
        }
        return fields;
    }
}
