/** An AgreedLog and the model of it, given the same calls. */
final class Both {
    final AgreedLog real = new AgreedLog();
    final Model model = new Model();
    final StringBuilder told = new StringBuilder();
    private final String label;

    Both(String label) {
        this.label = label;
    }

    private static String text(String name, int[] a) {
        StringBuilder b = new StringBuilder(name).append('(');
        for (int i = 0; i < a.length; i++) {
            b.append(i == 0 ? "" : ", ").append(a[i]);
        }
        return b.append(')').toString();
    }

    int call(String name, int... a) {
        int want = model.call(name, a);
        int got = tell(name, a);
        told.append(text(name, a)).append(" = ").append(want).append('\n');
        if (got != want) {
            System.out.print(told);
        }
        Check.due(label + " " + text(name, a), got, want);
        return want;
    }

    int ask(String name, int... a) {
        int want = model.ask(name, a);
        int got = question(name, a);
        if (got != want) {
            System.out.print(told);
        }
        Check.due(label + " " + text(name, a), got, want);
        return want;
    }

    int script(String text) {
        told.append("\"").append(text).append("\"\n");
        for (int i = 0; i < text.length(); i += 20) {
            call("feed", Check.four(text, i), Check.four(text, i + 4), Check.four(text, i + 8),
                Check.four(text, i + 12), Check.four(text, i + 16));
        }
        int done = call("script", text.length());
        for (int what = -1; what <= 2; what++) {
            ask("fault", what);
            ask("halted", what);
        }
        return done;
    }

    private int tell(String name, int[] a) {
        return switch (name) {
            case "begin" -> real.begin(a[0]);
            case "careful" -> real.careful(a[0]);
            case "timeout" -> real.timeout(a[0]);
            case "beat" -> real.beat(a[0]);
            case "propose" -> real.propose(a[0], a[1], a[2], a[3]);
            case "read" -> real.read(a[0], a[1]);
            case "hand" -> real.hand(a[0], a[1]);
            case "change" -> real.change(a[0], a[1]);
            case "compact" -> real.compact(a[0]);
            case "stop" -> real.stop(a[0]);
            case "start" -> real.start(a[0]);
            case "link" -> real.link(a[0], a[1], a[2]);
            case "come" -> real.come(a[0]);
            case "lose" -> real.lose(a[0]);
            case "twice" -> real.twice(a[0]);
            case "settle" -> real.settle(a[0]);
            case "feed" -> real.feed(a[0], a[1], a[2], a[3], a[4]);
            case "script" -> real.script(a[0]);
            case "undo" -> real.undo(a[0]);
            case "image" -> real.image(a[0]);
            default -> real.restore(a[0]);
        };
    }

    private int question(String name, int[] a) {
        return switch (name) {
            case "fault" -> real.fault(a[0]);
            case "halted" -> real.halted(a[0]);
            case "store" -> real.store(a[0], a[1]);
            case "cell" -> real.cell(a[0], a[1]);
            case "entry" -> real.entry(a[0], a[1], a[2]);
            case "follows" -> real.follows(a[0], a[1], a[2]);
            case "message" -> real.message(a[0], a[1]);
            case "first" -> real.first(a[0], a[1], a[2]);
            case "linked" -> real.linked(a[0], a[1]);
            case "alike" -> real.alike(a[0], a[1]);
            case "grants" -> real.grants(a[0]);
            case "electable" -> real.electable(a[0]);
            case "holders" -> real.holders(a[0], a[1]);
            case "safe" -> real.safe(a[0], a[1]);
            case "agreed" -> real.agreed(a[0], a[1]);
            case "leaders" -> real.leaders(a[0]);
            case "leader" -> real.leader();
            case "wins" -> real.wins(a[0]);
            case "then" -> real.then(a[0], a[1]);
            case "storm" -> real.storm(a[0]);
            case "rounds" -> real.rounds();
            case "could" -> real.could(a[0], a[1]);
            case "fragile" -> real.fragile();
            default -> real.count(a[0]);
        };
    }

    /** All that lies open, edges and wrong numbers too. */
    void lookAtAll() {
        for (int what = -1; what <= 11; what++) {
            ask("count", what);
        }
        for (int s = -1; s <= 5; s++) {
            lookAtStore(s);
        }
        for (int i = -1; i <= model.state.waiting.size(); i++) {
            for (int what = -1; what <= 10; what++) {
                ask("message", i, what);
            }
        }
        for (int place = 0; place <= 121; place++) {
            ask("agreed", place, place % 6 - 1);
            ask("agreed", place, 0);
        }
        for (int term = 0; term <= 201; term++) {
            ask("leaders", term);
        }
        ask("leader");
    }

    private void lookAtStore(int s) {
        for (int what = -1; what <= 17; what++) {
            ask("store", s, what);
        }
        for (int cell = -1; cell <= 4; cell++) {
            ask("cell", s, cell);
        }
        int last = s < 0 || s > 4 ? 1 : model.state.stores[s].last();
        for (int place = 0; place <= last + 1; place++) {
            for (int what = -1; what <= 4; what++) {
                ask("entry", s, place, what);
            }
        }
        for (int t = -1; t <= 5; t++) {
            for (int what = -1; what <= 2; what++) {
                ask("follows", s, t, what);
            }
            ask("linked", s, t);
            ask("alike", s, t);
        }
    }

    void lookAtLogs() {
        for (int s = -1; s <= 5; s++) {
            ask("grants", s);
            ask("electable", s);
            int last = s < 0 || s > 4 ? 1 : model.state.stores[s].last();
            for (int place = 0; place <= last + 1; place++) {
                ask("holders", s, place);
                ask("safe", s, place);
            }
            for (int t = -1; t <= 5; t++) {
                for (int kind = -1; kind <= 9; kind++) {
                    ask("first", s, t, kind);
                }
            }
        }
        ask("fragile");
    }

    void lookOnPaper() {
        for (int s = -1; s <= 5; s++) {
            ask("wins", s);
            for (int what = -1; what <= 17; what += 3) {
                ask("then", s, what);
            }
            ask("then", s, 3);
            ask("then", s, 4);
        }
        for (int what = -1; what <= 2; what++) {
            ask("storm", what);
        }
        ask("rounds");
    }
}
