import java.lang.reflect.Constructor;
import java.lang.reflect.Field;
import java.lang.reflect.Method;
import java.lang.reflect.Modifier;
import java.util.Map;
import java.util.TreeMap;

/** The public face: these members and no others, with these names, parameters and answers. */
public final class FaceTest {
    /** Each call with how many ints it takes. */
    private static final String CALLS = "begin 1 careful 1 timeout 1 beat 1 propose 4 read 2 hand 2 change 2 compact 1 "
        + "stop 1 start 1 link 3 come 1 lose 1 twice 1 settle 1 feed 5 script 1 fault 1 halted 1 store 2 cell 2 entry 3 "
        + "follows 3 message 2 first 3 linked 2 alike 2 grants 1 electable 1 holders 2 safe 2 agreed 2 leaders 1 "
        + "leader 0 wins 1 then 2 storm 1 rounds 0 could 2 fragile 0 undo 1 image 1 restore 1 count 1";

    private FaceTest() { }

    private static void holds(String what, boolean so) {
        Check.due(what, so ? 1 : 0, 1);
    }

    public static void main(String[] args) throws IllegalAccessException {
        theClass();
        theConstructor();
        theConstants();
        theCalls();
        classesInside();
        Check.end("FaceTest");
    }

    private static void theClass() {
        int flags = AgreedLog.class.getModifiers();
        holds("public", Modifier.isPublic(flags));
        holds("final", Modifier.isFinal(flags));
        holds("no package", AgreedLog.class.getPackageName().isEmpty());
        holds("of no other class", AgreedLog.class.getSuperclass() == Object.class);
        holds("of no interface", AgreedLog.class.getInterfaces().length == 0);
    }

    private static void theConstructor() {
        Constructor<?>[] all = AgreedLog.class.getDeclaredConstructors();
        Check.due("constructors", all.length, 1);
        holds("public", Modifier.isPublic(all[0].getModifiers()));
        Check.due("what it takes", all[0].getParameterCount(), 0);
        Check.due("what it throws", all[0].getExceptionTypes().length, 0);
    }

    private static void theConstants() throws IllegalAccessException {
        int open = 0;
        for (Field f : AgreedLog.class.getDeclaredFields()) {
            if (!Modifier.isPrivate(f.getModifiers())) {
                open++;
                int flags = f.getModifiers();
                holds("NONE, not " + f.getName(), f.getName().equals("NONE"));
                holds("public static final", Modifier.isPublic(flags) && Modifier.isStatic(flags)
                    && Modifier.isFinal(flags));
                holds("an int", f.getType() == int.class);
                Check.due("NONE", f.getInt(null), -1);
            }
        }
        Check.due("constants", open, 1);
    }

    private static void theCalls() {
        Map<String, Integer> due = new TreeMap<>();
        String[] told = CALLS.split(" ");
        for (int i = 0; i < told.length; i += 2) {
            due.put(told[i], Integer.parseInt(told[i + 1]));
        }
        for (Method m : AgreedLog.class.getDeclaredMethods()) {
            if (Modifier.isPrivate(m.getModifiers())) {
                holds(m.getName() + " bears the name of no public one", !CALLS.matches("(.* )?" + m.getName() + " .*"));
            } else {
                theCall(m, due);
            }
        }
        Check.due("none is missing: " + due.keySet(), due.size(), 0);
    }

    private static void theCall(Method m, Map<String, Integer> due) {
        Integer ints = due.remove(m.getName());
        holds(m.getName() + " is of the face, once", ints != null);
        holds(m.getName() + " is public", Modifier.isPublic(m.getModifiers()));
        holds(m.getName() + " is no static one", !Modifier.isStatic(m.getModifiers()));
        holds(m.getName() + " answers an int", m.getReturnType() == int.class);
        Check.due(m.getName() + " throws", m.getExceptionTypes().length, 0);
        Check.due(m.getName() + " takes", m.getParameterCount(), ints == null ? -1 : ints);
        for (Class<?> type : m.getParameterTypes()) {
            holds(m.getName() + " takes ints", type == int.class);
        }
    }

    private static void classesInside() {
        for (Class<?> c : AgreedLog.class.getDeclaredClasses()) {
            int flags = c.getModifiers();
            holds(c.getName() + " is static", Modifier.isStatic(flags));
            holds(c.getName() + " isn't seen", !Modifier.isPublic(flags) && !Modifier.isProtected(flags));
        }
    }
}
