import java.util.ArrayDeque;
import java.util.ArrayList;
import java.util.Arrays;
import java.util.Deque;
import java.util.List;
import java.util.Map;
import java.util.Set;
import java.util.TreeMap;
import java.util.TreeSet;

/**
 * The document written down a second time, as plainly as Java's library allows and without any
 * thought of room or depth, so that AgreedLog can be held against it call by call.
 */
final class Model {
    record Entry(int term, int kind, int cell, int number) { }

    record Members(int one, int two) {
        int all() {
            return one | two;
        }

        boolean has(int s) {
            return (all() >> s & 1) == 1;
        }

        boolean majority(Set<Integer> who) {
            return moreThanHalf(one, who) && (two == 0 || moreThanHalf(two, who));
        }

        private static boolean moreThanHalf(int set, Set<Integer> who) {
            int in = 0;
            int of = 0;
            for (int s = 0; s < 5; s++) {
                if ((set >> s & 1) == 1) {
                    of++;
                    if (who.contains(s)) {
                        in++;
                    }
                }
            }
            return in * 2 > of;
        }
    }

    record Snapshot(int place, int term, List<Integer> cells, Members members) { }

    record Message(int from, int to, int kind, int term, int a, int b, List<Entry> entries,
                   int agreed, Snapshot snapshot, int round) { }

    static final class Store {
        boolean up = true;
        int term;
        Integer voted;
        int role;
        Set<Integer> votes = new TreeSet<>();
        int read;
        int readCell;
        int readNumber;
        int readRound;
        Set<Integer> heard = new TreeSet<>();
        int round;
        TreeMap<Integer, Entry> log = new TreeMap<>();
        Snapshot snapshot;
        int agreed;
        int[] cells = new int[4];
        int[] next = new int[5];
        int[] has = new int[5];

        Store copy() {
            Store c = new Store();
            c.up = up;
            c.term = term;
            c.voted = voted;
            c.role = role;
            c.votes = new TreeSet<>(votes);
            c.read = read;
            c.readCell = readCell;
            c.readNumber = readNumber;
            c.readRound = readRound;
            c.heard = new TreeSet<>(heard);
            c.round = round;
            c.log = new TreeMap<>(log);
            c.snapshot = snapshot;
            c.agreed = agreed;
            c.cells = cells.clone();
            c.next = next.clone();
            c.has = has.clone();
            return c;
        }

        int snapPlace() {
            return snapshot == null ? 0 : snapshot.place();
        }

        int last() {
            return log.isEmpty() ? snapPlace() : log.lastKey();
        }

        /** null: not known. */
        Integer termAt(int place) {
            if (log.containsKey(place)) {
                return log.get(place).term();
            }
            if (place == 0) {
                return 0;
            }
            return snapshot != null && snapshot.place() == place ? snapshot.term() : null;
        }

        void role(int other) {
            if (other != role) {
                if (read == 1) {
                    read = 0;
                }
                votes.clear();
                role = other;
            }
        }
    }

    static final class State {
        Store[] stores = new Store[5];
        List<Message> waiting = new ArrayList<>();
        int lost;
        int came;
        Set<String> cuts = new TreeSet<>();
        int firstSet = 31;
        boolean careful;
        Map<Integer, Entry> firstAgreed = new TreeMap<>();
        Map<Integer, Integer> leaders = new TreeMap<>();

        State(int members) {
            firstSet = members;
            for (int s = 0; s < 5; s++) {
                stores[s] = new Store();
            }
        }

        State copy() {
            State c = new State(firstSet);
            for (int s = 0; s < 5; s++) {
                c.stores[s] = stores[s].copy();
            }
            c.waiting = new ArrayList<>(waiting);
            c.lost = lost;
            c.came = came;
            c.cuts = new TreeSet<>(cuts);
            c.careful = careful;
            c.firstAgreed = new TreeMap<>(firstAgreed);
            c.leaders = new TreeMap<>(leaders);
            return c;
        }

        // ---- terms

        Members members(int s) {
            Store x = stores[s];
            for (Entry e : x.log.descendingMap().values()) {
                if (e.kind() == 3) {
                    return new Members(e.cell(), e.number());
                }
                if (e.kind() == 4) {
                    return new Members(e.cell(), 0);
                }
            }
            return x.snapshot == null ? new Members(firstSet, 0) : x.snapshot.members();
        }

        int membersToldAt(int s) {
            for (Map.Entry<Integer, Entry> e : stores[s].log.descendingMap().entrySet()) {
                if (e.getValue().kind() >= 3) {
                    return e.getKey();
                }
            }
            return stores[s].snapPlace();
        }

        boolean linked(int a, int b) {
            return !cuts.contains(Math.min(a, b) + "-" + Math.max(a, b));
        }

        void post(Message m) {
            if (m.from() == m.to()) {
                return;
            }
            if (waiting.size() >= 60 || !linked(m.from(), m.to())) {
                lost++;
            } else {
                waiting.add(m);
            }
        }

        void simple(int from, int to, int kind, int term, int a, int b, int round) {
            post(new Message(from, to, kind, term, a, b, List.of(), 0, null, round));
        }

        boolean fresh(int hereStore, int otherTerm, int otherLast) {
            Store x = stores[hereStore];
            int here = x.termAt(x.last());
            return otherTerm > here || (otherTerm == here && otherLast >= x.last());
        }

        // ---- what stores do

        boolean canTimeout(int s) {
            Store x = stores[s];
            return x.up && x.role != 2 && members(s).has(s) && x.term < 200;
        }

        void timeout(int s) {
            if (!careful) {
                stand(s);
                return;
            }
            Store x = stores[s];
            x.role(3);
            x.votes.clear();
            x.votes.add(s);
            for (int t = 0; t < 5; t++) {
                if (members(s).has(t)) {
                    simple(s, t, 7, x.term + 1, x.last(), x.termAt(x.last()), 0);
                }
            }
            if (members(s).majority(x.votes)) {
                stand(s);
            }
        }

        void stand(int s) {
            Store x = stores[s];
            x.term++;
            x.role(1);
            x.voted = s;
            x.votes.clear();
            x.votes.add(s);
            for (int t = 0; t < 5; t++) {
                if (members(s).has(t)) {
                    simple(s, t, 0, x.term, x.last(), x.termAt(x.last()), 0);
                }
            }
            if (members(s).majority(x.votes)) {
                becomeLeader(s);
            }
        }

        void becomeLeader(int s) {
            Store x = stores[s];
            x.role(2);
            x.read = 0;
            Arrays.fill(x.next, x.last() + 1);
            Arrays.fill(x.has, 0);
            leaders.merge(x.term, 1 << s, (p, q) -> p | q);
            if (x.last() != 120) {
                x.log.put(x.last() + 1, new Entry(x.term, 0, 0, 0));
            }
            sendToAll(s);
            agree(s);
        }

        void sendToAll(int s) {
            int to = members(s).all();
            for (int t = 0; t < 5; t++) {
                if (t != s && (to >> t & 1) == 1) {
                    send(s, t);
                }
            }
        }

        void send(int s, int t) {
            Store x = stores[s];
            if (x.next[t] <= x.snapPlace()) {
                post(new Message(s, t, 4, x.term, x.snapshot.place(), x.snapshot.term(), List.of(), 0,
                    x.snapshot, x.round));
                return;
            }
            int before = x.next[t] - 1;
            List<Entry> entries = new ArrayList<>();
            for (int p = before + 1; p <= before + 3 && x.log.containsKey(p); p++) {
                entries.add(x.log.get(p));
            }
            post(new Message(s, t, 2, x.term, before, x.termAt(before), entries, x.agreed, null, x.round));
        }

        void agree(int s) {
            Store x = stores[s];
            int best = x.agreed;
            for (int p = x.agreed + 1; p <= x.last(); p++) {
                Set<Integer> who = new TreeSet<>();
                for (int t = 0; t < 5; t++) {
                    if ((t == s ? x.last() : x.has[t]) >= p) {
                        who.add(t);
                    }
                }
                if (x.log.get(p).term() == x.term && members(s).majority(who)) {
                    best = p;
                }
            }
            agreeUpTo(s, best);
            if (membersToldAt(s) > x.agreed) {
                return;
            }
            Members m = members(s);
            if (m.two() != 0) {
                if (x.last() != 120) {
                    x.log.put(x.last() + 1, new Entry(x.term, 4, m.two(), 0));
                    sendToAll(s);
                    agree(s);
                }
            } else if (!m.has(s)) {
                x.role(0);
            }
        }

        void agreeUpTo(int s, int place) {
            Store x = stores[s];
            while (x.agreed < place) {
                x.agreed++;
                Entry e = x.log.get(x.agreed);
                if (e.kind() == 1) {
                    x.cells[e.cell()] = e.number();
                }
                if (e.kind() == 2) {
                    x.cells[e.cell()] += e.number();
                }
                firstAgreed.putIfAbsent(x.agreed, e);
            }
        }

        boolean canCome(Message m) {
            return stores[m.to()].up && linked(m.from(), m.to());
        }

        int come(int i) {
            Message m = waiting.remove(i);
            if (!canCome(m)) {
                lost++;
                return 0;
            }
            came++;
            Store x = stores[m.to()];
            if (m.kind() != 7 && m.kind() != 8 && m.term() > x.term) {
                x.term = m.term();
                x.voted = null;
                x.role(0);
            }
            boolean toLeader = m.term() == x.term && x.role == 2;
            switch (m.kind()) {
                case 0 -> ask(m, x);
                case 1 -> {
                    if (m.a() == 1 && m.term() == x.term && x.role == 1) {
                        x.votes.add(m.from());
                        if (members(m.to()).majority(x.votes)) {
                            becomeLeader(m.to());
                        }
                    }
                }
                case 2 -> take(m, x);
                case 3 -> {
                    if (toLeader) {
                        heard(m, x);
                        took(m, x);
                    }
                }
                case 4 -> install(m, x);
                case 5 -> {
                    if (toLeader) {
                        heard(m, x);
                        installed(m, x);
                    }
                }
                case 6 -> {
                    if (m.term() == x.term && members(m.to()).has(m.to()) && x.role != 2 && x.term < 200) {
                        stand(m.to());
                    }
                }
                case 7 -> {
                    if (m.term() > x.term && x.role != 2 && fresh(m.to(), m.b(), m.a())) {
                        simple(m.to(), m.from(), 8, m.term(), 1, 0, 0);
                    } else {
                        simple(m.to(), m.from(), 8, x.term, 0, 0, 0);
                    }
                }
                default -> would(m, x);
            }
            return 1;
        }

        private void ask(Message m, Store x) {
            boolean granted = m.term() >= x.term && (x.voted == null || x.voted == m.from())
                && fresh(m.to(), m.b(), m.a());
            if (granted) {
                x.voted = m.from();
            }
            simple(m.to(), m.from(), 1, x.term, granted ? 1 : 0, 0, 0);
        }

        private void take(Message m, Store x) {
            if (m.term() < x.term) {
                simple(m.to(), m.from(), 3, x.term, 0, x.last(), m.round());
                return;
            }
            x.role(0);
            if (m.a() > x.last()) {
                simple(m.to(), m.from(), 3, x.term, 0, x.last(), m.round());
                return;
            }
            if (m.a() >= x.snapPlace() && x.termAt(m.a()) != m.b()) {
                simple(m.to(), m.from(), 3, x.term, 0, m.a() - 1, m.round());
                return;
            }
            int place = m.a();
            for (Entry e : m.entries()) {
                place++;
                if (place <= x.snapPlace()) {
                    continue;
                }
                if (x.log.containsKey(place) && x.log.get(place).term() != e.term()) {
                    x.log.tailMap(place, true).clear();
                }
                x.log.putIfAbsent(place, e);
            }
            int end = m.a() + m.entries().size();
            agreeUpTo(m.to(), Math.max(x.agreed, Math.min(m.agreed(), end)));
            simple(m.to(), m.from(), 3, x.term, 1, end, m.round());
        }

        private void heard(Message m, Store x) {
            if (x.read == 1 && m.round() >= x.readRound) {
                x.heard.add(m.from());
                if (members(m.to()).majority(x.heard)) {
                    x.read = 2;
                    x.readNumber = x.cells[x.readCell];
                }
            }
        }

        private void took(Message m, Store x) {
            int t = m.from();
            if (m.a() == 1) {
                x.has[t] = Math.max(x.has[t], m.b());
                x.next[t] = x.has[t] + 1;
                agree(m.to());
                if (x.role == 2 && x.next[t] <= x.last()) {
                    send(m.to(), t);
                }
            } else {
                x.next[t] = Math.max(Math.min(x.next[t], m.b() + 1), x.has[t] + 1);
                send(m.to(), t);
            }
        }

        private void install(Message m, Store x) {
            if (m.term() < x.term) {
                simple(m.to(), m.from(), 5, x.term, 0, 0, m.round());
                return;
            }
            x.role(0);
            if (m.a() > x.agreed) {
                Entry e = x.log.get(m.a());
                if (e != null && e.term() == m.b()) {
                    x.log.headMap(m.a(), true).clear();
                } else {
                    x.log.clear();
                }
                x.snapshot = m.snapshot();
                x.agreed = m.a();
                for (int c = 0; c < 4; c++) {
                    x.cells[c] = m.snapshot().cells().get(c);
                }
            }
            simple(m.to(), m.from(), 5, x.term, m.a(), 0, m.round());
        }

        private void installed(Message m, Store x) {
            int t = m.from();
            if (m.a() > 0) {
                x.has[t] = Math.max(x.has[t], m.a());
                x.next[t] = Math.max(x.next[t], x.has[t] + 1);
                agree(m.to());
                if (x.role == 2 && x.next[t] <= x.last()) {
                    send(m.to(), t);
                }
            }
        }

        private void would(Message m, Store x) {
            if (x.role != 3) {
                return;
            }
            if (m.a() == 1 && m.term() == x.term + 1) {
                x.votes.add(m.from());
                if (members(m.to()).majority(x.votes)) {
                    stand(m.to());
                }
            } else if (m.a() == 0 && m.term() > x.term) {
                x.term = m.term();
                x.voted = null;
                x.role(0);
            }
        }

        int drain() {
            int n = 0;
            while (n < 300 && !waiting.isEmpty()) {
                come(0);
                n++;
            }
            return n;
        }

        // ---- asked

        int store(int s, int what) {
            if (none(s)) {
                return -2;
            }
            Store x = stores[s];
            return switch (what) {
                case 0 -> x.up ? 1 : 0;
                case 1 -> x.term;
                case 2 -> x.voted == null ? -1 : x.voted;
                case 3 -> x.role;
                case 4 -> x.last();
                case 5 -> x.termAt(x.last());
                case 6 -> x.snapPlace();
                case 7 -> x.snapshot == null ? 0 : x.snapshot.term();
                case 8 -> x.agreed;
                case 9 -> members(s).one();
                case 10 -> members(s).two();
                case 11 -> x.role == 1 || x.role == 3 ? bits(x.votes) : 0;
                case 12 -> x.read;
                case 13 -> x.read == 0 ? -1 : x.readCell;
                case 14 -> x.read == 2 ? x.readNumber : 0;
                case 15 -> x.round;
                case 16 -> x.read == 1 ? bits(x.heard) : 0;
                default -> -2;
            };
        }

        int grants(int s) {
            Set<Integer> who = new TreeSet<>();
            for (int t = 0; t < 5; t++) {
                if (fresh(t, stores[s].termAt(stores[s].last()), stores[s].last())) {
                    who.add(t);
                }
            }
            return bits(who);
        }

        boolean electable(int s) {
            Set<Integer> who = new TreeSet<>();
            for (int t = 0; t < 5; t++) {
                if ((grants(s) >> t & 1) == 1 && stores[t].up && (t == s || linked(s, t))) {
                    who.add(t);
                }
            }
            return members(s).majority(who) && members(s).has(s) && stores[s].up;
        }

        int leader() {
            int best = -1;
            for (int s = 0; s < 5; s++) {
                if (stores[s].role == 2 && (best < 0 || stores[s].term > stores[best].term)) {
                    best = s;
                }
            }
            return best;
        }

        Set<Integer> holders(int s, int place) {
            int term = stores[s].log.get(place).term();
            Set<Integer> who = new TreeSet<>();
            for (int t = 0; t < 5; t++) {
                Entry e = stores[t].log.get(place);
                boolean inLog = e != null && e.term() == term;
                Entry first = firstAgreed.get(place);
                boolean inSnapshot = stores[t].snapPlace() >= place && first != null && first.term() == term;
                if (inLog || inSnapshot) {
                    who.add(t);
                }
            }
            return who;
        }

        boolean couldLead(int s, int n) {
            if (stores[s].role == 2) {
                return true;
            }
            if (n == 0) {
                return false;
            }
            for (int i = 0; i < waiting.size(); i++) {
                State c = copy();
                c.come(i);
                if (c.couldLead(s, n - 1)) {
                    return true;
                }
            }
            for (int t = 0; t < 5; t++) {
                if (canTimeout(t)) {
                    State c = copy();
                    c.timeout(t);
                    if (c.couldLead(s, n - 1)) {
                        return true;
                    }
                }
            }
            return false;
        }

        int fragile() {
            int fewest = 5;
            for (int stopped = 0; stopped < 32; stopped++) {
                State c = copy();
                boolean ofThoseUp = true;
                for (int s = 0; s < 5; s++) {
                    if ((stopped >> s & 1) == 1) {
                        ofThoseUp &= c.stores[s].up;
                        c.stores[s].up = false;
                    }
                }
                boolean some = false;
                for (int s = 0; s < 5; s++) {
                    some |= c.electable(s);
                }
                if (ofThoseUp && !some) {
                    fewest = Math.min(fewest, Integer.bitCount(stopped));
                }
            }
            return fewest;
        }

        int rounds() {
            int s = leader();
            if (s < 0) {
                return -1;
            }
            State c = copy();
            for (int round = 1; round <= 20; round++) {
                c.sendToAll(s);
                c.drain();
                Store x = c.stores[s];
                if (x.role != 2) {
                    return -1;
                }
                boolean all = x.agreed == x.last();
                for (int t = 0; t < 5; t++) {
                    if (c.members(s).has(t) && c.stores[t].up && (t == s || c.linked(s, t))) {
                        all &= c.stores[t].agreed == x.agreed;
                    }
                }
                if (all) {
                    return round;
                }
            }
            return -1;
        }
    }

    static boolean none(int s) {
        return s < 0 || s > 4;
    }

    static int bits(Set<Integer> who) {
        int bits = 0;
        for (int s : who) {
            bits |= 1 << s;
        }
        return bits;
    }

    State state = new State(31);
    final Deque<State> past = new ArrayDeque<>();
    final State[] images = new State[2];
    final StringBuilder tape = new StringBuilder();
    int fault;
    int faultPlace = -1;
    int haltCode;
    int haltPlace = -1;

    /** What a call of a name did, with nothing kept to be UNDONE. */
    int act(String name, int... a) {
        State w = state;
        switch (name) {
            case "begin":
                if (a[0] < 1 || a[0] > 31) {
                    return -3;
                }
                state = new State(a[0]);
                return Integer.bitCount(a[0]);
            case "careful": {
                if (a[0] != 0 && a[0] != 1) {
                    return -3;
                }
                int was = w.careful ? 1 : 0;
                w.careful = a[0] == 1;
                return was;
            }
            case "timeout":
                if (none(a[0])) {
                    return -2;
                }
                if (!w.canTimeout(a[0])) {
                    return -5;
                }
                w.timeout(a[0]);
                return w.stores[a[0]].term;
            case "beat":
                if (none(a[0])) {
                    return -2;
                }
                if (w.stores[a[0]].role != 2) {
                    return -5;
                }
                w.sendToAll(a[0]);
                return w.waiting.size();
            case "propose":
                return propose(a[0], a[1], a[2], a[3]);
            case "read":
                return read(a[0], a[1]);
            case "hand":
                return hand(a[0], a[1]);
            case "change":
                return change(a[0], a[1]);
            case "compact":
                return compact(a[0]);
            case "stop":
                return stop(a[0]);
            case "start":
                if (none(a[0])) {
                    return -2;
                }
                if (w.stores[a[0]].up) {
                    return -5;
                }
                w.stores[a[0]].up = true;
                return w.stores[a[0]].last();
            case "link":
                return link(a[0], a[1], a[2]);
            case "come":
                return noMessage(a[0]) ? -2 : w.come(a[0]);
            case "lose":
                if (noMessage(a[0])) {
                    return -2;
                }
                w.waiting.remove(a[0]);
                w.lost++;
                return w.waiting.size();
            case "twice":
                if (noMessage(a[0])) {
                    return -2;
                }
                if (w.waiting.size() == 60) {
                    return -4;
                }
                w.waiting.add(w.waiting.get(a[0]));
                return w.waiting.size();
            default:
                return settle(a[0]);
        }
    }

    private boolean noMessage(int i) {
        return i < 0 || i >= state.waiting.size();
    }

    private int propose(int s, int kind, int cell, int v) {
        if (none(s) || (kind != 1 && kind != 2) || cell < 0 || cell > 3) {
            return -2;
        }
        if (v < -999 || v > 999) {
            return -3;
        }
        return append(s, new Entry(state.stores[s].term, kind, cell, v));
    }

    private int append(int s, Entry e) {
        Store x = state.stores[s];
        if (x.role != 2) {
            return -5;
        }
        if (x.last() >= 100) {
            return -4;
        }
        int place = x.last() + 1;
        x.log.put(place, e);
        state.sendToAll(s);
        state.agree(s);
        return place;
    }

    private int read(int s, int cell) {
        if (none(s) || cell < 0 || cell > 3) {
            return -2;
        }
        Store x = state.stores[s];
        if (x.role != 2 || x.read == 1 || x.termAt(x.agreed) != x.term) {
            return -5;
        }
        x.round++;
        x.read = 1;
        x.readCell = cell;
        x.readRound = x.round;
        x.heard.clear();
        x.heard.add(s);
        state.sendToAll(s);
        if (state.members(s).majority(x.heard)) {
            x.read = 2;
            x.readNumber = x.cells[cell];
        }
        return x.read;
    }

    private int hand(int s, int t) {
        if (none(s) || none(t)) {
            return -2;
        }
        if (s == t) {
            return -3;
        }
        Store x = state.stores[s];
        if (x.role != 2 || !state.members(s).has(t) || x.has[t] != x.last()) {
            return -5;
        }
        state.simple(s, t, 6, x.term, 0, 0, 0);
        return state.waiting.size();
    }

    private int change(int s, int members) {
        if (none(s)) {
            return -2;
        }
        if (members < 1 || members > 31) {
            return -3;
        }
        Members m = state.members(s);
        Store x = state.stores[s];
        if (x.role != 2 || m.two() != 0 || state.membersToldAt(s) > x.agreed || m.one() == members) {
            return -5;
        }
        return append(s, new Entry(x.term, 3, m.one(), members));
    }

    private int compact(int s) {
        if (none(s)) {
            return -2;
        }
        Store x = state.stores[s];
        if (!x.up || x.agreed == x.snapPlace()) {
            return -5;
        }
        Members at = x.snapshot == null ? new Members(state.firstSet, 0) : x.snapshot.members();
        for (Entry e : x.log.headMap(x.agreed, true).values()) {
            if (e.kind() == 3) {
                at = new Members(e.cell(), e.number());
            }
            if (e.kind() == 4) {
                at = new Members(e.cell(), 0);
            }
        }
        int going = x.log.headMap(x.agreed, true).size();
        List<Integer> cells = new ArrayList<>();
        for (int c : x.cells) {
            cells.add(c);
        }
        x.snapshot = new Snapshot(x.agreed, x.termAt(x.agreed), List.copyOf(cells), at);
        x.log.headMap(x.agreed, true).clear();
        return going;
    }

    private int stop(int s) {
        if (none(s)) {
            return -2;
        }
        Store x = state.stores[s];
        if (!x.up) {
            return -5;
        }
        int role = x.role;
        x.up = false;
        x.role(0);
        x.read = 0;
        x.agreed = x.snapPlace();
        for (int c = 0; c < 4; c++) {
            x.cells[c] = x.snapshot == null ? 0 : x.snapshot.cells().get(c);
        }
        return role;
    }

    private int link(int a, int b, int how) {
        if (none(a) || none(b)) {
            return -2;
        }
        if ((how != 0 && how != 1) || a == b) {
            return -3;
        }
        String name = Math.min(a, b) + "-" + Math.max(a, b);
        boolean changed = how == 0 ? state.cuts.add(name) : state.cuts.remove(name);
        return changed ? 1 : 0;
    }

    private int settle(int n) {
        if (n < 1 || n > 200) {
            return -3;
        }
        if (state.waiting.isEmpty()) {
            return -5;
        }
        int done = 0;
        while (done < n && !state.waiting.isEmpty()) {
            state.come(0);
            done++;
        }
        return done;
    }

    int call(String name, int... a) {
        switch (name) {
            case "feed":
                return feed(a);
            case "script":
                return script(a[0]);
            case "undo":
                if (a[0] < 1 || a[0] > 8 || a[0] > past.size()) {
                    return -3;
                }
                for (int i = 0; i < a[0]; i++) {
                    state = past.pop();
                }
                return past.size();
            case "image":
                if (a[0] != 0 && a[0] != 1) {
                    return -2;
                }
                images[a[0]] = state.copy();
                return 0;
            case "restore":
                if (a[0] != 0 && a[0] != 1) {
                    return -2;
                }
                if (images[a[0]] == null) {
                    return -6;
                }
                state = images[a[0]].copy();
                past.clear();
                return 0;
            default:
                State before = state.copy();
                int code = act(name, a);
                if (code >= 0) {
                    keep(before);
                }
                return code;
        }
    }

    private void keep(State before) {
        past.push(before);
        if (past.size() > 8) {
            past.removeLast();
        }
    }

    private int feed(int[] five) {
        if (tape.length() + 20 > 300) {
            return -4;
        }
        for (int v : five) {
            tape.append((char) (v >>> 24)).append((char) (v >>> 16 & 255));
            tape.append((char) (v >>> 8 & 255)).append((char) (v & 255));
        }
        return tape.length();
    }

    private int script(int n) {
        if (n < 0 || n > tape.length()) {
            return -3;
        }
        String text = tape.substring(0, n);
        tape.setLength(0);
        ModelScript parsed = new ModelScript(text);
        fault = parsed.fault;
        faultPlace = parsed.faultPlace;
        if (fault != 0) {
            return -30 - fault;
        }
        haltCode = 0;
        haltPlace = -1;
        State before = state.copy();
        int done = 0;
        for (ModelScript.Act act : parsed.acts) {
            if (done == 400) {
                break;
            }
            int code = scripted(act);
            if (code < 0) {
                haltCode = code;
                haltPlace = act.place();
                break;
            }
            done++;
        }
        if (done > 0) {
            keep(before);
        }
        return done;
    }

    private int scripted(ModelScript.Act act) {
        int[] v = act.numbers();
        return switch (act.word()) {
            case "set" -> act("propose", v[0], 1, v[1], v[2]);
            case "add" -> act("propose", v[0], 2, v[1], v[2]);
            case "cut" -> act("link", v[0], v[1], 0);
            case "join" -> act("link", v[0], v[1], 1);
            default -> act(act.word(), v);
        };
    }

    /** Calls that change nothing. */
    int ask(String name, int... a) {
        State w = state;
        return switch (name) {
            case "fault" -> a[0] == 0 ? fault : a[0] == 1 ? faultPlace : -1;
            case "halted" -> a[0] == 0 ? haltCode : a[0] == 1 ? haltPlace : -1;
            case "store" -> w.store(a[0], a[1]);
            case "cell" -> none(a[0]) || a[1] < 0 || a[1] > 3 ? Integer.MIN_VALUE : w.stores[a[0]].cells[a[1]];
            case "entry" -> none(a[0]) ? -1000 : part(w.stores[a[0]].log.get(a[1]), a[2]);
            case "follows" -> follows(a[0], a[1], a[2]);
            case "message" -> message(a[0], a[1]);
            case "first" -> first(a[0], a[1], a[2]);
            case "linked" -> pair(a[0], a[1]) != 0 ? pair(a[0], a[1]) : w.linked(a[0], a[1]) ? 1 : 0;
            case "alike" -> pair(a[0], a[1]) != 0 ? pair(a[0], a[1]) : alike(a[0], a[1]);
            case "grants" -> none(a[0]) ? -2 : w.grants(a[0]);
            case "electable" -> none(a[0]) ? -2 : w.electable(a[0]) ? 1 : 0;
            case "holders" -> noEntry(a[0], a[1]) != 0 ? noEntry(a[0], a[1]) : bits(w.holders(a[0], a[1]));
            case "safe" -> noEntry(a[0], a[1]) != 0 ? noEntry(a[0], a[1])
                : w.members(a[0]).majority(w.holders(a[0], a[1])) ? 1 : 0;
            case "agreed" -> part(w.firstAgreed.get(a[0]), a[1]);
            case "leaders" -> a[0] < 1 || a[0] > 200 ? -3 : w.leaders.getOrDefault(a[0], 0);
            case "leader" -> w.leader();
            case "rounds" -> w.rounds();
            case "could" -> could(a[0], a[1]);
            case "fragile" -> w.fragile();
            case "count" -> count(a[0]);
            default -> onPaper(name, a);
        };
    }

    private int onPaper(String name, int[] a) {
        State c = state.copy();
        if (name.equals("storm")) {
            int n = c.drain();
            return a[0] == 0 ? n : a[0] == 1 ? c.lost - state.lost : -2;
        }
        c.drain();
        if (name.equals("then")) {
            return c.store(a[0], a[1]);
        }
        if (none(a[0])) {
            return -2;
        }
        if (!c.canTimeout(a[0])) {
            return -1;
        }
        c.timeout(a[0]);
        c.drain();
        return c.stores[a[0]].role == 2 ? 1 : 0;
    }

    private static int pair(int a, int b) {
        return none(a) || none(b) ? -2 : a == b ? -3 : 0;
    }

    private int noEntry(int s, int place) {
        return none(s) ? -2 : state.stores[s].log.containsKey(place) ? 0 : -5;
    }

    private static int part(Entry e, int what) {
        if (e == null) {
            return -1000;
        }
        return switch (what) {
            case 0 -> e.term();
            case 1 -> e.kind();
            case 2 -> e.cell();
            case 3 -> e.number();
            default -> -1000;
        };
    }

    private int follows(int leader, int s, int what) {
        if (none(leader) || none(s) || (what != 0 && what != 1)) {
            return -2;
        }
        Store x = state.stores[leader];
        return x.role != 2 ? -1 : what == 0 ? x.next[s] : x.has[s];
    }

    private int message(int i, int what) {
        if (noMessage(i)) {
            return -2;
        }
        Message m = state.waiting.get(i);
        return switch (what) {
            case 0 -> m.from();
            case 1 -> m.to();
            case 2 -> m.kind();
            case 3 -> m.term();
            case 4 -> m.a();
            case 5 -> m.b();
            case 6 -> m.entries().size();
            case 7 -> m.agreed();
            case 8 -> state.canCome(m) ? 1 : 0;
            case 9 -> m.round();
            default -> -2;
        };
    }

    private int first(int from, int to, int kind) {
        if (none(from) || none(to) || kind < 0 || kind > 8) {
            return -2;
        }
        for (int i = 0; i < state.waiting.size(); i++) {
            Message m = state.waiting.get(i);
            if (m.from() == from && m.to() == to && m.kind() == kind) {
                return i;
            }
        }
        return -1;
    }

    private int alike(int a, int b) {
        for (int p = 120; p > 0; p--) {
            Integer one = state.stores[a].termAt(p);
            Integer two = state.stores[b].termAt(p);
            if (one != null && two != null && one.intValue() == two.intValue()) {
                return p;
            }
        }
        return 0;
    }

    private int could(int s, int n) {
        if (none(s)) {
            return -2;
        }
        if (n < 0 || n > 3) {
            return -3;
        }
        return state.waiting.size() > 8 ? -5 : state.couldLead(s, n) ? 1 : 0;
    }

    private int count(int what) {
        int up = 0;
        int leaders = 0;
        int term = 0;
        int agreed = 0;
        for (int s = 0; s < 5; s++) {
            up |= state.stores[s].up ? 1 << s : 0;
            leaders |= state.stores[s].role == 2 ? 1 << s : 0;
            term = Math.max(term, state.stores[s].term);
            agreed = Math.max(agreed, state.stores[s].agreed);
        }
        return switch (what) {
            case 0 -> state.waiting.size();
            case 1 -> state.lost;
            case 2 -> state.came;
            case 3 -> up;
            case 4 -> leaders;
            case 5 -> term;
            case 6 -> agreed;
            case 7 -> past.size();
            case 8 -> state.firstSet;
            case 9 -> state.careful ? 1 : 0;
            case 10 -> tape.length();
            default -> -1;
        };
    }
}
