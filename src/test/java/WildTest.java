import java.util.Random;

/** Rule 7: any arguments in any state; nothing is thrown, and the answers are still those of the model. */
public final class WildTest {
    private static final int RUNS = 150;
    private static final int CALLS = 400;
    private static final int[] EDGES = {Integer.MIN_VALUE, Integer.MIN_VALUE + 1, -1000, -999, -6, -2, -1, 0, 1, 2, 3,
        4, 5, 7, 8, 9, 31, 32, 50, 59, 60, 61, 100, 120, 121, 200, 201, 300, 999, 1000, Integer.MAX_VALUE - 1,
        Integer.MAX_VALUE};
    private static final String[] TOLD = {"begin 1", "careful 1", "timeout 1", "beat 1", "propose 4", "read 2", "hand 2",
        "change 2", "compact 1", "stop 1", "start 1", "link 3", "come 1", "lose 1", "twice 1", "settle 1", "feed 5",
        "script 1", "undo 1", "image 1", "restore 1"};
    private static final String[] ASKED = {"fault 1", "halted 1", "store 2", "cell 2", "entry 3", "follows 3",
        "message 2", "first 3", "linked 2", "alike 2", "grants 1", "electable 1", "holders 2", "safe 2", "agreed 2",
        "leaders 1", "leader 0", "wins 1", "then 2", "storm 1", "rounds 0", "fragile 0", "count 1"};

    private WildTest() { }

    public static void main(String[] args) {
        for (int seed = 1; seed <= RUNS && !Check.failing(); seed++) {
            run(new Random(seed * 7919L), seed);
        }
        Check.end("WildTest");
    }

    private static int number(Random random) {
        return switch (random.nextInt(6)) {
            case 0 -> random.nextInt();
            case 1 -> EDGES[random.nextInt(EDGES.length)];
            default -> random.nextInt(5);
        };
    }

    private static int[] numbers(Random random, String call) {
        int[] a = new int[call.charAt(call.length() - 1) - '0'];
        for (int i = 0; i < a.length; i++) {
            a[i] = number(random);
        }
        return a;
    }

    private static String name(String call) {
        return call.substring(0, call.length() - 2);
    }

    private static void run(Random random, int seed) {
        Both both = new Both("wild " + seed);
        for (int i = 0; i < CALLS && !Check.failing(); i++) {
            // begin() comes seldom, or no run would get far.
            String call = TOLD[random.nextInt(20) == 0 ? 0 : 1 + random.nextInt(TOLD.length - 1)];
            both.call(name(call), numbers(random, call));
            if (random.nextInt(6) == 0) {
                both.call("settle", 1 + random.nextInt(40));
            }
            for (int k = 0; k < 4; k++) {
                String asked = ASKED[random.nextInt(ASKED.length)];
                both.ask(name(asked), numbers(random, asked));
            }
        }
    }
}
