import java.lang.reflect.Array;
import java.lang.reflect.Field;
import java.lang.reflect.Modifier;
import java.util.ArrayDeque;
import java.util.Collections;
import java.util.Deque;
import java.util.IdentityHashMap;
import java.util.Set;

/** What an object keeps: all of it is made by the constructor, and it is small enough. */
public final class RoomTest {
    private static final Harness H = new Harness("RoomTest");

    public static void main(String[] args) throws IllegalAccessException {
        TreeJoiner x = Harness.with("S(a)");
        x.clear();
        Set<Object> made = reached(x);
        H.same("few objects and arrays", 1, made.size() < 60 ? 1 : 0);
        H.same("few elements", 1, elements(made) < 150000 ? 1 : 0);
        for (int i = 0; i < 3; i++) {
            use(x);
        }
        Set<Object> kept = reached(x);
        H.same("objects and arrays kept", made.size(), kept.size());
        H.same("they are the same ones", 1, made.containsAll(kept) ? 1 : 0);
        H.done();
    }

    private static void use(TreeJoiner x) {
        for (int t = 0; t < 17; t++) {
            Harness.tree(x, t == 0 ? "S(".repeat(11) + "a" + ")".repeat(11)
                    : "S(".repeat(10) + "S* a" + ")".repeat(10));
        }
        Harness.sentence(x, "a a a a a a a a a");
        Harness.sentence(x, "a a a a a a a a");
        Harness.read(x, "S S");
        H.same("ways", 1000000000, Harness.read(x, "S"));
        H.same("uses", 8, x.choose(987654321));
        H.index("choose", () -> x.choose(-1));
        Harness.everything(x);
        H.same("clear", 16, x.clear());
    }

    private static Set<Object> reached(Object first) throws IllegalAccessException {
        Set<Object> seen = Collections.newSetFromMap(new IdentityHashMap<>());
        Deque<Object> waiting = new ArrayDeque<>();
        waiting.add(first);
        while (!waiting.isEmpty()) {
            Object next = waiting.remove();
            if (!seen.add(next) || next.getClass().isArray()) {
                continue;
            }
            for (Field field : next.getClass().getDeclaredFields()) {
                field.setAccessible(true);
                if (!Modifier.isStatic(field.getModifiers()) && !field.getType().isPrimitive()
                        && field.get(next) != null) {
                    waiting.add(field.get(next));
                }
            }
        }
        return seen;
    }

    private static int elements(Set<Object> objects) {
        return objects.stream().filter(object -> object.getClass().isArray())
                .mapToInt(Array::getLength).sum();
    }
}
