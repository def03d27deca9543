import java.util.Random;

/** Runs drawn from fixed seeds, each call held against the model, and all that lies open behind it. */
public final class ModelTest {
    private static final int RUNS = 150;
    private static final int CALLS = 130;

    private final Random random;
    private final Both both;
    private final int mood;

    private ModelTest(long seed) {
        random = new Random(seed);
        both = new Both("seed " + seed);
        mood = random.nextInt(8);
    }

    public static void main(String[] args) {
        int from = args.length > 0 ? Integer.parseInt(args[0]) : 1;
        int runs = args.length > 1 ? Integer.parseInt(args[1]) : RUNS;
        for (int seed = from; seed < from + runs && !Check.failing(); seed++) {
            new ModelTest(seed).run();
        }
        Check.end("ModelTest");
    }

    private int up(int n) {
        return random.nextInt(n);
    }

    private boolean chance(int percent) {
        return random.nextInt(100) < percent;
    }

    private int store() {
        return chance(2) ? up(9) - 2 : up(5);
    }

    private int aLeader() {
        int leader = both.model.state.leader();
        return leader < 0 || chance(10) ? store() : leader;
    }

    private int aSet() {
        return chance(3) ? up(40) - 3 : 1 + up(31);
    }

    private int aMessage() {
        int n = both.model.state.waiting.size();
        return n == 0 || chance(2) ? up(70) - 3 : up(n);
    }

    private void run() {
        if (chance(60)) {
            both.call("begin", aSet());
        }
        if (mood % 2 == 1) {
            both.call("careful", 1);
        }
        prelude();
        for (int i = 0; i < CALLS && !Check.failing(); i++) {
            step();
            both.lookAtAll();
            if (chance(12)) {
                both.lookAtLogs();
            }
            if (chance(8)) {
                both.lookOnPaper();
            }
            lookAhead();
        }
    }

    /** Limits of the document lie far from where a run begins; some runs begin near them. */
    private void prelude() {
        switch (up(8)) {
            case 0 -> fillLogs();
            case 1 -> raiseTerms();
            case 2 -> {
                fillLogs();
                electOftenMore();
                raiseTerms();
            }
            case 3 -> {
                fillLogs();
                electOftenMore();
            }
            default -> { }
        }
    }

    private int someMember() {
        int s = up(5);
        for (int i = 0; i < 5 && !both.model.state.members(s).has(s); i++) {
            s = (s + 1) % 5;
        }
        return s;
    }

    private void fillLogs() {
        int s = someMember();
        both.script("timeout " + s + "; settle 200;");
        if (chance(40)) {
            both.call("link", s, (s + 1) % 5, 0);
        }
        both.script("times 2 { times " + (40 + up(11)) + " { add " + s + " " + up(4) + " -999; "
            + (chance(70) ? "settle 20;" : "") + "} }");
        both.call("settle", 1 + up(60));
    }

    private void electOftenMore() {
        int s = someMember();
        both.script("stop " + s + "; start " + s + ";");
        both.script("times " + (10 + up(14)) + " { timeout " + s + "; settle 100; stop " + s + "; start " + s + ";}");
        both.script("timeout " + s + "; settle 150;");
    }

    private void raiseTerms() {
        int s = someMember();
        both.call("stop", s);
        both.call("start", s);
        both.call("careful", 0);
        both.script("times 4 { times " + (46 + up(5)) + " { timeout " + s + "; } }");
        both.call("settle", 1 + up(200));
        both.call("careful", up(2));
    }

    private void lookAhead() {
        int n = both.model.state.waiting.size();
        if (chance(20)) {
            both.ask("could", store(), up(3));
        }
        if (n <= 5 && chance(2)) {
            both.ask("could", up(5), 3);
        }
        if (chance(2)) {
            both.ask("could", store(), up(6) - 1);
        }
    }

    private void step() {
        int way = up(100);
        if (way < 9) {
            both.call("timeout", mood == 2 ? aLeader() : store());
        } else if (way < 14) {
            both.call("beat", aLeader());
        } else if (way < 24) {
            propose();
        } else if (way < 28) {
            both.call("read", aLeader(), chance(5) ? up(7) - 2 : up(4));
        } else if (way < 31) {
            both.call("hand", aLeader(), store());
        } else if (way < 36) {
            both.call("change", aLeader(), aSet());
        } else if (way < 41) {
            both.call("compact", store());
        } else if (way < 44) {
            both.call("stop", store());
        } else if (way < 49) {
            both.call("start", store());
        } else if (way < 53) {
            both.call("link", store(), store(), chance(3) ? up(5) - 1 : up(10) < 4 ? 0 : 1);
        } else {
            deliver();
        }
    }

    private void propose() {
        int v = chance(5) ? up(4000) - 2000 : chance(10) ? (chance(50) ? 999 : -999) : up(1999) - 999;
        both.call("propose", aLeader(), chance(3) ? up(6) - 1 : 1 + up(2), chance(3) ? up(8) - 2 : up(4), v);
    }

    private void deliver() {
        int way = up(100);
        if (way < 35) {
            both.call("come", aMessage());
        } else if (way < 42) {
            both.call("lose", aMessage());
        } else if (way < 50) {
            both.call("twice", aMessage());
        } else if (way < 75) {
            both.call("settle", chance(5) ? up(250) - 20 : 1 + up(mood < 4 ? 12 : 60));
        } else if (way < 84) {
            both.script(new RandomScript(random, both.model).text());
        } else if (way < 89) {
            both.call("undo", chance(10) ? up(12) - 1 : 1 + up(3));
        } else if (way < 94) {
            both.call("image", chance(5) ? up(5) - 2 : up(2));
        } else if (way < 96) {
            both.call("restore", chance(5) ? up(5) - 2 : up(2));
        } else if (way < 98) {
            both.call("careful", chance(10) ? up(5) - 1 : up(2));
        } else if (way < 99) {
            both.call("script", up(60) - 20);
        } else {
            both.call("begin", aSet());
        }
    }
}
