import java.lang.reflect.InvocationTargetException;
import java.lang.reflect.Method;
import java.util.Arrays;
import java.util.Set;
import java.util.TreeMap;
import java.util.TreeSet;
import java.util.function.Supplier;
import java.util.function.ToIntFunction;

/**
 * Runs the methods p01_.. to p46_.. of a test one by one, each under its own name, which begins with the
 * promise's number, and sees to it that no promise and no code of the document is left out.
 */
final class Bounds {
    static final int LOW = Integer.MIN_VALUE;
    static final int HIGH = Integer.MAX_VALUE;
    static final int[] NO_STORES = {-1, 5, LOW, HIGH};

    /** The codes by which the document lets each call refuse, or say that there is none. */
    private static final String CODES = "2:-3 3:-3 4:-2 4:-5 5:-2 5:-5 6:-2 6:-3 6:-5 6:-4 7:-2 7:-5 8:-2 8:-3 8:-5 "
        + "9:-2 9:-3 9:-5 9:-4 10:-2 10:-5 11:-2 11:-5 12:-2 12:-5 13:-2 13:-3 14:-2 15:-2 16:-2 16:-4 17:-3 17:-5 "
        + "18:-4 19:-3 19:-31 19:-32 19:-33 20:-1 21:-1 22:-2 23:-2147483648 24:-1000 25:-2 25:-1 26:-2 27:-2 27:-1 "
        + "28:-2 28:-3 29:-2 29:-3 30:-2 31:-2 32:-2 32:-5 33:-2 33:-5 34:-1000 35:-3 36:-1 37:-2 37:-1 38:-2 39:-2 "
        + "40:-1 41:-2 41:-3 41:-5 43:-3 44:-2 45:-2 45:-6 46:-1";

    private static final Set<String> REFUSED = new TreeSet<>();
    private static String running = "";

    private Bounds() { }

    /** What is told is checked by hand, so the name of the test that runs stands ahead of it. */
    static void due(String what, long got, long want) {
        Check.due(running + ": " + what, got, want);
    }

    static void run(Class<?> tests, int first, int last) {
        TreeMap<String, Method> found = new TreeMap<>();
        for (Method m : tests.getDeclaredMethods()) {
            if (m.getName().matches("p\\d\\d_.*")) {
                found.put(m.getName(), m);
            }
        }
        Set<Integer> promises = new TreeSet<>();
        for (Method m : found.values()) {
            running = m.getName();
            promises.add(promise());
            try {
                m.invoke(null);
            } catch (IllegalAccessException | InvocationTargetException e) {
                System.out.println(running + " broke off: " + e.getCause());
                due("it ends", 0, 1);
            }
        }
        running = tests.getSimpleName();
        for (int p = first; p <= last; p++) {
            due("a test of promise " + p, promises.contains(p) ? 1 : 0, 1);
        }
        for (String code : CODES.split(" ")) {
            int p = Integer.parseInt(code.substring(0, code.indexOf(':')));
            if (p >= first && p <= last) {
                due("a run that is refused, promise and code " + code, REFUSED.contains(code) ? 1 : 0, 1);
            }
        }
        System.out.println(tests.getSimpleName() + ": " + found.size() + " tests");
        Check.end(tests.getSimpleName());
    }

    private static int promise() {
        return Integer.parseInt(running.substring(1, 3));
    }

    // ---- objects to begin with

    /** A new object in which a set was begun and scripts were done to their end. */
    static AgreedLog after(int members, String... scripts) {
        AgreedLog x = new AgreedLog();
        x.begin(members);
        play(x, scripts);
        return x;
    }

    static void play(AgreedLog x, String... scripts) {
        for (String text : scripts) {
            Check.script(x, text);
            due("no FAULT in " + text, x.fault(0), 0);
            due("not refused in " + text, x.halted(0), 0);
        }
    }

    /** 0 has been elected in TERM 1 by all of its set, and nothing waits. */
    static AgreedLog led(int members, String... scripts) {
        AgreedLog x = after(members, members == 1 ? "timeout 0;" : "timeout 0; settle 99;");
        play(x, scripts);
        return x;
    }

    /** 0 is the one member; LAST is as told, all of it AGREED: up to 100 by entries, up to 120 by elections. */
    static AgreedLog aloneWithLast(int last) {
        AgreedLog x = after(1, "timeout 0;");
        while (x.store(0, 4) < Math.min(last, 100)) {
            x.propose(0, 2, 0, 1);
        }
        while (x.store(0, 4) < last) {
            play(x, "stop 0; start 0; timeout 0;");
        }
        return x;
    }

    /**
     * The first set is 15; 0 leads and has a SNAPSHOT at place 4 whose MEMBERS are JOINT (15 and 7), CELL 0 is 5 there
     * and CELL 3 is 6; NEW at place 5 isn't AGREED; 2 has nothing, and TAKE waits for 1, INSTALL for 2.
     */
    static AgreedLog jointInASnapshot() {
        AgreedLog x = after(15, "cut 0 2; timeout 0; settle 99; set 0 0 5; set 0 3 6; settle 99; change 0 7;");
        for (int i = 0; i < 60 && x.store(0, 8) < 4; i++) {
            x.settle(1);
        }
        loseAll(x);
        due("four go", x.compact(0), 4);
        due("NEW stands behind them", x.store(0, 4), 5);
        play(x, "join 0 2; beat 0;");
        due("INSTALL waits", latest(x, 2), 4);
        return x;
    }

    /** A store that nobody can hear stands, or asks, until its TERM is as told. */
    static void raiseTerm(AgreedLog x, int s, int term) {
        for (int t = 0; t < 5; t++) {
            if (t != s) {
                x.link(s, t, 0);
            }
        }
        for (int i = 0; i < 200 && x.store(s, 1) < term; i++) {
            x.timeout(s);
        }
        for (int t = 0; t < 5; t++) {
            if (t != s) {
                x.link(s, t, 1);
            }
        }
        due("TERM " + term, x.store(s, 1), term);
    }

    /** So many messages wait that there are as many as told: the leader's TAKEs, the last of them doubled. */
    static void fillTo(AgreedLog x, int leader, int waiting) {
        while (x.count(0) + 4 <= waiting) {
            x.beat(leader);
        }
        while (x.count(0) < waiting) {
            x.twice(x.count(0) - 1);
        }
        due("as many wait as told", x.count(0), waiting);
    }

    // ---- messages

    static int come(AgreedLog x, int from, int to, int kind) {
        int i = x.first(from, to, kind);
        due("one waits from " + from + " to " + to + " of KIND " + kind, i >= 0 ? 1 : 0, 1);
        return x.come(i);
    }

    static void lose(AgreedLog x, int from, int to, int kind) {
        int i = x.first(from, to, kind);
        due("one waits from " + from + " to " + to + " of KIND " + kind, i >= 0 ? 1 : 0, 1);
        x.lose(i);
    }

    static void loseAll(AgreedLog x) {
        while (x.count(0) > 0) {
            x.lose(0);
        }
    }

    static void loseAllBut(AgreedLog x, int from, int to, int kind) {
        for (int i = x.count(0) - 1; i >= 0; i--) {
            if (x.message(i, 0) != from || x.message(i, 1) != to || x.message(i, 2) != kind) {
                x.lose(i);
            }
        }
    }

    /** The latest message that waits. */
    static int latest(AgreedLog x, int what) {
        return x.message(x.count(0) - 1, what);
    }

    // ---- refusals

    /** The call is refused by that code and nothing has changed: not now, not behind undo(), in IMAGES, on THE TAPE. */
    static void refused(Supplier<AgreedLog> made, ToIntFunction<AgreedLog> call, int code) {
        REFUSED.add(promise() + ":" + code);
        AgreedLog x = made.get();
        int[] before = facts(x);
        due("the code", call.applyAsInt(x), code);
        same("nothing has changed", before, facts(x));
        AgreedLog twin = made.get();
        samePast(x, twin);
        AgreedLog y = made.get();
        call.applyAsInt(y);
        sameFuture(y, made.get());
    }

    /** As refused(), for calls that only ask: the code alone tells it. */
    static void answers(AgreedLog x, ToIntFunction<AgreedLog> call, int code) {
        REFUSED.add(promise() + ":" + code);
        int[] before = facts(x);
        due("the code", call.applyAsInt(x), code);
        same("nothing has changed", before, facts(x));
    }

    /** A FAULT: THE TAPE is empty then, and fault() tells it; nothing else changes. */
    static void faulty(String text, int which, int place) {
        REFUSED.add(promise() + ":" + (-30 - which));
        AgreedLog x = led(31, "beat 0; come 0; stop 3; set 0 1 5;");
        Check.feed(x, text);
        int[] before = facts(x);
        due("\"" + text + "\"", x.script(text.length()), -30 - which);
        due("\"" + text + "\" FAULT", x.fault(0), which);
        due("\"" + text + "\" its place", x.fault(1), place);
        due("\"" + text + "\" THE TAPE is empty", x.count(10), 0);
        int[] now = facts(x);
        for (int i = TAPE_FACTS; i < now.length; i++) {
            if (before[i] != now[i]) {
                due("\"" + text + "\" changed the fact " + i, now[i], before[i]);
            }
        }
    }

    private static void samePast(AgreedLog x, AgreedLog twin) {
        for (int i = 0; i < 9; i++) {
            due("UNDO goes on alike", x.undo(1), twin.undo(1));
            same("UNDONE alike", facts(twin), facts(x));
        }
        for (int i = 0; i < 2; i++) {
            due("IMAGES alike", x.restore(i), twin.restore(i));
            same("restored alike", facts(twin), facts(x));
        }
        due("THE TAPE alike", x.script(x.count(10)), twin.script(twin.count(10)));
        same("its SCRIPT alike", facts(twin), facts(x));
    }

    private static void sameFuture(AgreedLog x, AgreedLog twin) {
        due("messages alike", x.settle(200), twin.settle(200));
        same("behind them alike", facts(twin), facts(x));
        due("one UNDONE alike", x.undo(1), twin.undo(1));
        same("behind that alike", facts(twin), facts(x));
    }

    static void same(String what, int[] want, int[] got) {
        due(what, Arrays.equals(want, got) ? 1 : 0, 1);
    }

    private static final int TAPE_FACTS = 3;

    /** All that lies open; what a SCRIPT with a FAULT changes stands first. */
    static int[] facts(AgreedLog x) {
        int[] f = new int[6000];
        int n = 0;
        f[n++] = x.count(10);
        f[n++] = x.fault(0);
        f[n++] = x.fault(1);
        f[n++] = x.halted(0);
        f[n++] = x.halted(1);
        for (int what = 0; what < 10; what++) {
            f[n++] = x.count(what);
        }
        for (int s = 0; s < 5; s++) {
            for (int what = 0; what < 17; what++) {
                f[n++] = x.store(s, what);
            }
            for (int t = 0; t < 5; t++) {
                f[n++] = x.cell(s, t);
                f[n++] = x.follows(s, t, 0);
                f[n++] = x.follows(s, t, 1);
                f[n++] = x.linked(s, t);
            }
            for (int place = 1; place <= x.store(s, 4); place++) {
                for (int what = 0; what < 4; what++) {
                    f[n++] = x.entry(s, place, what);
                }
            }
        }
        for (int i = 0; i < x.count(0); i++) {
            for (int what = 0; what < 10; what++) {
                f[n++] = x.message(i, what);
            }
        }
        for (int place = 1; place <= 120; place++) {
            for (int what = 0; what < 4; what++) {
                f[n++] = x.agreed(place, what);
            }
        }
        for (int term = 1; term <= 200; term++) {
            f[n++] = x.leaders(term);
        }
        return Arrays.copyOf(f, n);
    }
}
