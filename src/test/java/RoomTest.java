import java.lang.reflect.Array;
import java.lang.reflect.Field;
import java.lang.reflect.Modifier;
import java.util.ArrayDeque;
import java.util.Collections;
import java.util.Deque;
import java.util.IdentityHashMap;
import java.util.Set;

/**
 * All calls of a run live in one room. LanguageTest sees that calls make nothing; this one counts
 * what a constructor makes, and that a run of 512 of the dearest calls leaves it at that.
 */
public final class RoomTest {
    private static final int OBJECTS_MOST = 6_000;
    private static final int PARTS_MOST = 73_000;

    private RoomTest() { }

    public static void main(String[] args) throws IllegalAccessException {
        AgreedLog x = new AgreedLog();
        int[] made = measure(x);
        System.out.println("one AgreedLog: " + made[0] + " objects and arrays, " + made[1] + " fields and elements");
        Check.due("few objects", made[0] <= OBJECTS_MOST ? 1 : 0, 1);
        Check.due("few fields and elements", made[1] <= PARTS_MOST ? 1 : 0, 1);
        dearRun(x);
        int[] later = measure(x);
        Check.due("as many objects behind 512 calls", later[0], made[0]);
        Check.due("as many fields and elements behind 512 calls", later[1], made[1]);
        Check.end("RoomTest");
    }

    private static void dearRun(AgreedLog x) {
        for (int i = 0; i < 32; i++) {
            x.begin(31);
            x.careful(i % 2);
            x.timeout(i % 5);
            x.could((i + 1) % 5, 3);
            x.settle(200);
            Check.script(x, "times 8 { times 50 { careful 0; } }");
            x.rounds();
            x.wins(i % 5);
            x.then(0, 4);
            x.storm(0);
            x.fragile();
            x.image(i % 2);
            x.undo(2);
            x.restore(i % 2);
        }
    }

    private static int[] measure(Object root) throws IllegalAccessException {
        Set<Object> seen = Collections.newSetFromMap(new IdentityHashMap<>());
        Deque<Object> todo = new ArrayDeque<>();
        todo.add(root);
        seen.add(root);
        int parts = 0;
        while (!todo.isEmpty()) {
            Object o = todo.remove();
            if (o.getClass().isArray()) {
                parts += Array.getLength(o);
                if (!o.getClass().getComponentType().isPrimitive()) {
                    for (Object e : (Object[]) o) {
                        push(e, seen, todo);
                    }
                }
                continue;
            }
            for (Field f : o.getClass().getDeclaredFields()) {
                if (!Modifier.isStatic(f.getModifiers())) {
                    parts++;
                    if (!f.getType().isPrimitive()) {
                        f.setAccessible(true);
                        push(f.get(o), seen, todo);
                    }
                }
            }
        }
        return new int[] {seen.size(), parts};
    }

    private static void push(Object o, Set<Object> seen, Deque<Object> todo) {
        if (o != null && seen.add(o)) {
            todo.add(o);
        }
    }
}
