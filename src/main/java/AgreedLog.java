import java.util.Arrays;

/** A log that five stores agree on; the numbered promises stand in the document. */
public final class AgreedLog {
    public static final int NONE = -1;

    private static final int NO_SUCH = -2;
    private static final int BAD_NUMBER = -3;
    private static final int TOO_MANY = -4;
    private static final int NOT_NOW = -5;
    private static final int NO_IMAGE = -6;
    private static final int SCRIPT_FAULT = -30;
    private static final int NO_ENTRY = -1000;
    private static final int NO_CELL = -2147483648;

    private static final int STORES = 5;
    private static final int ALL_STORES = 31;
    private static final int CELLS = 4;
    private static final int LOG_MOST = 120;
    private static final int PROPOSED_MOST = 100;
    private static final int TERM_MOST = 200;
    private static final int TERM_BITS = 255;
    private static final int NUMBER_MOST = 999;
    private static final int TAKE_MOST = 3;
    private static final int WAIT_MOST = 60;
    private static final int SETTLE_MOST = 200;
    private static final int PAPER_MOST = 300;
    private static final int ROUNDS_MOST = 20;
    private static final int COULD_STEPS = 3;
    private static final int COULD_MESSAGES = 8;
    private static final int UNDO_MOST = 8;
    private static final int PAST_SLOTS = 9;
    private static final int IMAGES = 2;
    private static final int ACTS_MOST = 400;
    private static final int TAPE_MOST = 300;
    private static final int FEED_BYTES = 20;

    private static final int FOLLOWER = 0;
    private static final int CANDIDATE = 1;
    private static final int LEADER = 2;
    private static final int ASKS_FIRST = 3;

    private static final int READ_NONE = 0;
    private static final int READ_WAITS = 1;
    private static final int READ_ANSWERED = 2;

    private static final int NOTHING = 0;
    private static final int SET = 1;
    private static final int ADD = 2;
    private static final int JOINT = 3;
    private static final int NEW = 4;

    private static final int ASK = 0;
    private static final int VOTE = 1;
    private static final int TAKE = 2;
    private static final int TOOK = 3;
    private static final int INSTALL = 4;
    private static final int INSTALLED = 5;
    private static final int NOW = 6;
    private static final int MAY = 7;
    private static final int WOULD = 8;

    private final World now = new World();
    private final World[] past = new World[PAST_SLOTS];
    private final World[] images = new World[IMAGES];
    private final Paper paper = new Paper();
    private final Tape tape = new Tape();
    private final Program program = new Program();
    private int spare = 0;
    private int undoable = 0;
    private int imagesMade = 0;
    private int haltCode = 0;
    private int haltPlace = NONE;

    public AgreedLog() {
        for (int i = 0; i < PAST_SLOTS; i++) {
            past[i] = new World();
        }
        for (int i = 0; i < IMAGES; i++) {
            images[i] = new World();
        }
    }

    // ---- what happens

    public int begin(int members) {
        remember();
        return kept(now.beginsAnew(members));
    }

    public int careful(int is) {
        remember();
        return kept(now.takesCare(is));
    }

    public int timeout(int s) {
        remember();
        return kept(now.timesOut(s));
    }

    public int beat(int s) {
        remember();
        return kept(now.beats(s));
    }

    public int propose(int s, int kind, int cell, int v) {
        remember();
        return kept(now.proposes(s, kind, cell, v));
    }

    public int read(int s, int cell) {
        remember();
        return kept(now.reads(s, cell));
    }

    public int hand(int s, int t) {
        remember();
        return kept(now.hands(s, t));
    }

    public int change(int s, int members) {
        remember();
        return kept(now.changes(s, members));
    }

    public int compact(int s) {
        remember();
        return kept(now.compacts(s));
    }

    public int stop(int s) {
        remember();
        return kept(now.stops(s));
    }

    public int start(int s) {
        remember();
        return kept(now.starts(s));
    }

    public int link(int a, int b, int how) {
        remember();
        return kept(now.links(a, b, how));
    }

    public int come(int i) {
        remember();
        return kept(now.comes(i));
    }

    public int lose(int i) {
        remember();
        return kept(now.loses(i));
    }

    public int twice(int i) {
        remember();
        return kept(now.doubles(i));
    }

    public int settle(int n) {
        remember();
        return kept(now.settles(n));
    }

    public int feed(int a, int b, int c, int d, int e) {
        if (tape.size + FEED_BYTES > TAPE_MOST) {
            return TOO_MANY;
        }
        tape.append(a);
        tape.append(b);
        tape.append(c);
        tape.append(d);
        tape.append(e);
        return tape.size;
    }

    /** Its loop stands here, not in a method of its own: calls may go eight deep, no more. */
    public int script(int n) {
        if (n < 0 || n > tape.size) {
            return BAD_NUMBER;
        }
        tape.parse(n, program);
        tape.size = 0;
        if (tape.fault != 0) {
            return SCRIPT_FAULT - tape.fault;
        }
        remember();
        haltCode = 0;
        haltPlace = NONE;
        program.rewind();
        int done = 0;
        while (done < ACTS_MOST && haltCode == 0 && program.moveOn()) {
            int at = program.at;
            int code = now.act(program.ops[at], program.x[at], program.y[at], program.z[at]);
            if (code < 0) {
                haltCode = code;
                haltPlace = program.places[at];
            } else {
                done++;
            }
        }
        return done > 0 ? kept(done) : 0;
    }

    public int fault(int what) {
        switch (what) {
            case 0: return tape.fault;
            case 1: return tape.faultPlace;
            default: return NONE;
        }
    }

    public int halted(int what) {
        switch (what) {
            case 0: return haltCode;
            case 1: return haltPlace;
            default: return NONE;
        }
    }

    // ---- stores

    public int store(int s, int what) {
        return Survey.storeFact(now, s, what);
    }

    public int cell(int s, int cell) {
        if (isNoStore(s) || isNoCell(cell)) {
            return NO_CELL;
        }
        return now.stores[s].cells[cell];
    }

    public int entry(int s, int place, int what) {
        if (isNoStore(s) || !now.stores[s].holds(place)) {
            return NO_ENTRY;
        }
        return Entry.part(now.stores[s].log[place], what);
    }

    public int follows(int leader, int s, int what) {
        if (isNoStore(leader) || isNoStore(s) || what < 0 || what > 1) {
            return NO_SUCH;
        }
        Store x = now.stores[leader];
        if (x.role != LEADER) {
            return NONE;
        }
        return what == 0 ? x.next[s] : x.has[s];
    }

    // ---- messages

    public int message(int i, int what) {
        return Survey.messageFact(now, i, what);
    }

    public int first(int from, int to, int kind) {
        if (isNoStore(from) || isNoStore(to) || kind < ASK || kind > WOULD) {
            return NO_SUCH;
        }
        return now.mail.find(from, to, kind);
    }

    public int linked(int a, int b) {
        if (isNoStore(a) || isNoStore(b)) {
            return NO_SUCH;
        }
        if (a == b) {
            return BAD_NUMBER;
        }
        return now.mail.isCut(a, b) ? 0 : 1;
    }

    // ---- logs, votes

    public int alike(int a, int b) {
        if (isNoStore(a) || isNoStore(b)) {
            return NO_SUCH;
        }
        if (a == b) {
            return BAD_NUMBER;
        }
        return Survey.alikeUpTo(now.stores[a], now.stores[b]);
    }

    public int grants(int s) {
        return isNoStore(s) ? NO_SUCH : Survey.granting(now, s);
    }

    public int electable(int s) {
        if (isNoStore(s)) {
            return NO_SUCH;
        }
        return Survey.canBeElected(now, s, now.whoIsUp()) ? 1 : 0;
    }

    public int holders(int s, int place) {
        if (isNoStore(s)) {
            return NO_SUCH;
        }
        return now.stores[s].holds(place) ? Survey.holding(now, s, place) : NOT_NOW;
    }

    public int safe(int s, int place) {
        if (isNoStore(s)) {
            return NO_SUCH;
        }
        Store x = now.stores[s];
        if (!x.holds(place)) {
            return NOT_NOW;
        }
        return x.isMajority(Survey.holding(now, s, place)) ? 1 : 0;
    }

    public int agreed(int place, int what) {
        if (place < 1 || place > LOG_MOST || now.firstAgreed[place] == 0) {
            return NO_ENTRY;
        }
        return Entry.part(now.firstAgreed[place], what);
    }

    public int leaders(int term) {
        return term < 1 || term > TERM_MOST ? BAD_NUMBER : now.leadersOf[term];
    }

    public int leader() {
        return Survey.leaderNow(now);
    }

    // ---- on paper

    public int wins(int s) {
        return isNoStore(s) ? NO_SUCH : paper.wouldWin(now, s);
    }

    public int then(int s, int what) {
        return paper.factThen(now, s, what);
    }

    public int storm(int what) {
        return what < 0 || what > 1 ? NO_SUCH : paper.stormOf(now, what);
    }

    public int rounds() {
        return paper.roundsNeeded(now);
    }

    public int could(int s, int n) {
        if (isNoStore(s)) {
            return NO_SUCH;
        }
        if (n < 0 || n > COULD_STEPS) {
            return BAD_NUMBER;
        }
        if (now.mail.waiting > COULD_MESSAGES) {
            return NOT_NOW;
        }
        return paper.couldLead(now, s, n) ? 1 : 0;
    }

    public int fragile() {
        return Survey.fewestStops(now);
    }

    // ---- back

    public int undo(int n) {
        if (n < 1 || n > undoable) {
            return BAD_NUMBER;
        }
        spare = (spare + PAST_SLOTS - n) % PAST_SLOTS;
        undoable -= n;
        now.copyFrom(past[spare]);
        return undoable;
    }

    public int image(int i) {
        if (i < 0 || i >= IMAGES) {
            return NO_SUCH;
        }
        images[i].copyFrom(now);
        imagesMade |= 1 << i;
        return 0;
    }

    public int restore(int i) {
        if (i < 0 || i >= IMAGES) {
            return NO_SUCH;
        }
        if ((imagesMade >> i & 1) == 0) {
            return NO_IMAGE;
        }
        now.copyFrom(images[i]);
        undoable = 0;
        return 0;
    }

    public int count(int what) {
        switch (what) {
            case 7: return undoable;
            case 10: return tape.size;
            default: return Survey.countOf(now, what);
        }
    }

    /** A call isn't known to be refused before it ran, so what was is put aside ahead of it. */
    private void remember() {
        past[spare].copyFrom(now);
    }

    private int kept(int code) {
        if (code >= 0) {
            spare = (spare + 1) % PAST_SLOTS;
            undoable = Math.min(undoable + 1, UNDO_MOST);
        }
        return code;
    }

    private static boolean isNoStore(int s) {
        return s < 0 || s >= STORES;
    }

    private static boolean isNoCell(int cell) {
        return cell < 0 || cell >= CELLS;
    }

    private static boolean isNoSet(int members) {
        return members < 1 || members > ALL_STORES;
    }

    /** An entry is one int, so that a whole world is copied without an object of its own for each. */
    private static final class Entry {
        static int of(int term, int kind, int cell, int number) {
            return number << 16 | cell << 11 | kind << 8 | term;
        }

        static int termOf(int entry) {
            return entry & TERM_BITS;
        }

        static int kindOf(int entry) {
            return entry >> 8 & 7;
        }

        static int cellOf(int entry) {
            return entry >> 11 & 31;
        }

        static int numberOf(int entry) {
            return entry >> 16;
        }

        static boolean tellsMembers(int entry) {
            return (entry >> 8 & 7) >= JOINT;
        }

        static int part(int entry, int what) {
            switch (what) {
                case 0: return termOf(entry);
                case 1: return kindOf(entry);
                case 2: return cellOf(entry);
                case 3: return numberOf(entry);
                default: return NO_ENTRY;
            }
        }
    }

    /** At place 0 it stands for none; then its set is the first set. */
    private static final class Snapshot {
        int place;
        int term;
        int set;
        int second;
        final int[] cells = new int[CELLS];

        void renew(int members) {
            place = 0;
            term = 0;
            set = members;
            second = 0;
            Arrays.fill(cells, 0);
        }

        void copyFrom(Snapshot other) {
            place = other.place;
            term = other.term;
            set = other.set;
            second = other.second;
            System.arraycopy(other.cells, 0, cells, 0, CELLS);
        }
    }

    private static final class Reading {
        int state;
        int cell;
        int number;
        int heard;

        void clear() {
            state = READ_NONE;
            cell = 0;
            number = 0;
            heard = 0;
        }

        void copyFrom(Reading other) {
            state = other.state;
            cell = other.cell;
            number = other.number;
            heard = other.heard;
        }
    }

    private static final class Store {
        final int id;
        boolean up;
        int term;
        int voted;
        int role;
        int votes;
        int round;
        int last;
        int agreed;
        int told;
        int set;
        int second;
        final int[] log = new int[LOG_MOST + 1];
        final int[] cells = new int[CELLS];
        final int[] next = new int[STORES];
        final int[] has = new int[STORES];
        final Snapshot snap = new Snapshot();
        final Reading reading = new Reading();

        Store(int id) {
            this.id = id;
        }

        void renew(int members) {
            up = true;
            term = 0;
            voted = NONE;
            role = FOLLOWER;
            votes = 0;
            round = 0;
            last = 0;
            agreed = 0;
            snap.renew(members);
            reading.clear();
            Arrays.fill(cells, 0);
            findMembers();
        }

        void copyFrom(Store other) {
            up = other.up;
            term = other.term;
            voted = other.voted;
            role = other.role;
            votes = other.votes;
            round = other.round;
            last = other.last;
            agreed = other.agreed;
            told = other.told;
            set = other.set;
            second = other.second;
            System.arraycopy(other.log, 0, log, 0, log.length);
            System.arraycopy(other.cells, 0, cells, 0, CELLS);
            System.arraycopy(other.next, 0, next, 0, STORES);
            System.arraycopy(other.has, 0, has, 0, STORES);
            snap.copyFrom(other.snap);
            reading.copyFrom(other.reading);
        }

        boolean holds(int place) {
            return place > snap.place && place <= last;
        }

        /** NONE where the term isn't known, which no term is like. */
        int termAt(int place) {
            if (place == snap.place) {
                return snap.term;
            }
            return place > snap.place && place <= last ? log[place] & TERM_BITS : NONE;
        }

        boolean findsFresh(int otherTerm, int otherLast) {
            int own = termAt(last);
            return otherTerm > own || otherTerm == own && otherLast >= last;
        }

        boolean isMember(int s) {
            return ((set | second) >> s & 1) == 1;
        }

        boolean isMajority(int bits) {
            if (2 * Integer.bitCount(bits & set) <= Integer.bitCount(set)) {
                return false;
            }
            return second == 0 || 2 * Integer.bitCount(bits & second) > Integer.bitCount(second);
        }

        void findMembers() {
            told = 0;
            set = snap.set;
            second = snap.second;
            for (int p = last; p > snap.place; p--) {
                if (Entry.tellsMembers(log[p])) {
                    told = p;
                    set = Entry.cellOf(log[p]);
                    second = Entry.numberOf(log[p]);
                    return;
                }
            }
        }

        void append(int entry) {
            if (last >= LOG_MOST) {
                return;
            }
            last++;
            log[last] = entry;
            if (Entry.tellsMembers(entry)) {
                told = last;
                set = Entry.cellOf(entry);
                second = Entry.numberOf(entry);
            }
        }

        void becomes(int other) {
            if (role == other) {
                return;
            }
            role = other;
            votes = 0;
            if (reading.state == READ_WAITS) {
                reading.clear();
            }
        }

        void fallBack(int newTerm) {
            term = newTerm;
            voted = NONE;
            becomes(FOLLOWER);
        }

        void goesDown() {
            up = false;
            becomes(FOLLOWER);
            reading.clear();
            agreed = snap.place;
            System.arraycopy(snap.cells, 0, cells, 0, CELLS);
        }

        void takeSnapshot() {
            for (int p = agreed; p > snap.place; p--) {
                if (Entry.tellsMembers(log[p])) {
                    snap.set = Entry.cellOf(log[p]);
                    snap.second = Entry.numberOf(log[p]);
                    break;
                }
            }
            snap.term = termAt(agreed);
            snap.place = agreed;
            System.arraycopy(cells, 0, snap.cells, 0, CELLS);
            findMembers();
        }

        void install(Message m) {
            if (termAt(m.a) != m.b) {
                last = m.a;
            }
            snap.place = m.a;
            snap.term = m.b;
            snap.set = m.load[CELLS];
            snap.second = m.load[CELLS + 1];
            System.arraycopy(m.load, 0, snap.cells, 0, CELLS);
            System.arraycopy(m.load, 0, cells, 0, CELLS);
            agreed = m.a;
            findMembers();
        }

        void takeEntries(Message m) {
            for (int i = 0; i < m.count; i++) {
                int place = m.a + 1 + i;
                if (place <= snap.place) {
                    continue;
                }
                if (place <= last && Entry.termOf(log[place]) != Entry.termOf(m.load[i])) {
                    last = place - 1;
                    findMembers();
                }
                if (place == last + 1) {
                    append(m.load[i]);
                }
            }
        }

        boolean answersRead(int from, int ofRound) {
            if (reading.state != READ_WAITS || ofRound < round) {
                return false;
            }
            reading.heard |= 1 << from;
            return isMajority(reading.heard);
        }

        void answerRead() {
            reading.state = READ_ANSWERED;
            reading.number = cells[reading.cell];
            reading.heard = 0;
        }
    }

    /** a and b are the two numbers that message() tells; load holds entries, or cells and two sets. */
    private static final class Message {
        int from;
        int to;
        int kind;
        int term;
        int a;
        int b;
        int count;
        int agreed;
        int round;
        final int[] load = new int[CELLS + 2];

        void copyFrom(Message other) {
            from = other.from;
            to = other.to;
            kind = other.kind;
            term = other.term;
            a = other.a;
            b = other.b;
            count = other.count;
            agreed = other.agreed;
            round = other.round;
            System.arraycopy(other.load, 0, load, 0, CELLS + 2);
        }
    }

    private static final class Mail {
        final Message[] box = new Message[WAIT_MOST + 1];
        final Message nowhere = new Message();
        int waiting;
        int lost;
        int came;
        int cuts;

        Mail() {
            for (int i = 0; i <= WAIT_MOST; i++) {
                box[i] = new Message();
            }
        }

        void renew() {
            waiting = 0;
            lost = 0;
            came = 0;
            cuts = 0;
        }

        void copyFrom(Mail other) {
            for (int i = 0; i < other.waiting; i++) {
                box[i].copyFrom(other.box[i]);
            }
            waiting = other.waiting;
            lost = other.lost;
            came = other.came;
            cuts = other.cuts;
        }

        boolean isCut(int a, int b) {
            return (cuts >> (a * STORES + b) & 1) == 1;
        }

        void turnLink(int a, int b) {
            cuts ^= 1 << (a * STORES + b) | 1 << (b * STORES + a);
        }

        /** What is LOST is written too, into a message that nobody reads: senders needn't ask. */
        Message post(int from, int to, int kind, int term) {
            Message m = nowhere;
            if (waiting >= WAIT_MOST || (cuts >> (from * STORES + to) & 1) == 1) {
                lost++;
            } else {
                m = box[waiting];
                waiting++;
            }
            m.from = from;
            m.to = to;
            m.kind = kind;
            m.term = term;
            m.a = 0;
            m.b = 0;
            m.count = 0;
            m.agreed = 0;
            m.round = 0;
            return m;
        }

        /** The one taken out lies in the last slot, which post() never fills, while it is heard. */
        Message takeOut(int i) {
            Message m = box[i];
            waiting--;
            for (int j = i; j < waiting; j++) {
                box[j] = box[j + 1];
            }
            box[waiting] = box[WAIT_MOST];
            box[WAIT_MOST] = m;
            return m;
        }

        int find(int from, int to, int kind) {
            for (int i = 0; i < waiting; i++) {
                Message m = box[i];
                if (m.from == from && m.to == to && m.kind == kind) {
                    return i;
                }
            }
            return NONE;
        }
    }

    /** All that can be UNDONE. */
    private static final class World {
        private static final int STANDS = 1;
        private static final int LEADS = 2;
        private static final int SENDS = 4;
        private static final int AGREES = 8;
        private static final int GOES_ON = 16;
        private static final int AGREE_MOST = 8;

        final Store[] stores = new Store[STORES];
        final Mail mail = new Mail();
        final int[] firstAgreed = new int[LOG_MOST + 1];
        final int[] leadersOf = new int[TERM_MOST + 1];
        int firstSet;
        boolean careful;

        World() {
            for (int s = 0; s < STORES; s++) {
                stores[s] = new Store(s);
            }
            renew(ALL_STORES);
        }

        private void renew(int members) {
            for (int s = 0; s < STORES; s++) {
                stores[s].renew(members);
            }
            mail.renew();
            Arrays.fill(firstAgreed, 0);
            Arrays.fill(leadersOf, 0);
            firstSet = members;
            careful = false;
        }

        void copyFrom(World other) {
            for (int s = 0; s < STORES; s++) {
                stores[s].copyFrom(other.stores[s]);
            }
            mail.copyFrom(other.mail);
            System.arraycopy(other.firstAgreed, 0, firstAgreed, 0, firstAgreed.length);
            System.arraycopy(other.leadersOf, 0, leadersOf, 0, leadersOf.length);
            firstSet = other.firstSet;
            careful = other.careful;
        }

        int act(int op, int x, int y, int z) {
            switch (op) {
                case Tape.TIMEOUT: return timesOut(x);
                case Tape.BEAT: return beats(x);
                case Tape.SET_CELL: return proposes(x, SET, y, z);
                case Tape.ADD_CELL: return proposes(x, ADD, y, z);
                case Tape.READ: return reads(x, y);
                case Tape.HAND: return hands(x, y);
                case Tape.CHANGE: return changes(x, y);
                case Tape.COMPACT: return compacts(x);
                case Tape.STOP: return stops(x);
                case Tape.START: return starts(x);
                case Tape.CUT: return links(x, y, 0);
                case Tape.JOIN: return links(x, y, 1);
                case Tape.COME: return comes(x);
                case Tape.LOSE: return loses(x);
                case Tape.TWICE: return doubles(x);
                case Tape.SETTLE: return settles(x);
                default: return takesCare(x);
            }
        }

        int beginsAnew(int members) {
            if (isNoSet(members)) {
                return BAD_NUMBER;
            }
            renew(members);
            return Integer.bitCount(members);
        }

        int takesCare(int is) {
            if (is < 0 || is > 1) {
                return BAD_NUMBER;
            }
            int was = careful ? 1 : 0;
            careful = is == 1;
            return was;
        }

        boolean canTimeOut(int s) {
            Store x = stores[s];
            return x.up && x.role != LEADER && x.isMember(s) && x.term < TERM_MOST;
        }

        int timesOut(int s) {
            if (isNoStore(s)) {
                return NO_SUCH;
            }
            if (!canTimeOut(s)) {
                return NOT_NOW;
            }
            Store x = stores[s];
            finish(x, careful ? askFirst(x) : STANDS, s);
            return x.term;
        }

        private boolean isNoLeader(int s) {
            return stores[s].role != LEADER;
        }

        int beats(int s) {
            if (isNoStore(s)) {
                return NO_SUCH;
            }
            if (isNoLeader(s)) {
                return NOT_NOW;
            }
            sendToAll(stores[s]);
            return mail.waiting;
        }

        int proposes(int s, int kind, int cell, int v) {
            if (isNoStore(s) || kind < SET || kind > ADD || isNoCell(cell)) {
                return NO_SUCH;
            }
            if (v < -NUMBER_MOST || v > NUMBER_MOST) {
                return BAD_NUMBER;
            }
            if (isNoLeader(s)) {
                return NOT_NOW;
            }
            return putEntry(stores[s], kind, cell, v);
        }

        private int putEntry(Store x, int kind, int cell, int number) {
            if (x.last >= PROPOSED_MOST) {
                return TOO_MANY;
            }
            x.append(Entry.of(x.term, kind, cell, number));
            int place = x.last;
            finish(x, SENDS | AGREES, x.id);
            return place;
        }

        int reads(int s, int cell) {
            if (isNoStore(s) || isNoCell(cell)) {
                return NO_SUCH;
            }
            Store x = stores[s];
            if (isNoLeader(s) || x.reading.state == READ_WAITS || x.termAt(x.agreed) != x.term) {
                return NOT_NOW;
            }
            x.round++;
            x.reading.state = READ_WAITS;
            x.reading.cell = cell;
            x.reading.number = 0;
            x.reading.heard = 1 << s;
            sendToAll(x);
            if (x.isMajority(x.reading.heard)) {
                x.answerRead();
            }
            return x.reading.state;
        }

        int hands(int s, int t) {
            if (isNoStore(s) || isNoStore(t)) {
                return NO_SUCH;
            }
            if (s == t) {
                return BAD_NUMBER;
            }
            Store x = stores[s];
            if (isNoLeader(s) || !x.isMember(t) || x.has[t] != x.last) {
                return NOT_NOW;
            }
            mail.post(s, t, NOW, x.term);
            return mail.waiting;
        }

        int changes(int s, int members) {
            if (isNoStore(s)) {
                return NO_SUCH;
            }
            if (isNoSet(members)) {
                return BAD_NUMBER;
            }
            Store x = stores[s];
            if (isNoLeader(s) || x.second != 0 || x.told > x.agreed || x.set == members) {
                return NOT_NOW;
            }
            return putEntry(x, JOINT, x.set, members);
        }

        int compacts(int s) {
            if (isNoStore(s)) {
                return NO_SUCH;
            }
            Store x = stores[s];
            int going = x.agreed - x.snap.place;
            if (!x.up || going <= 0) {
                return NOT_NOW;
            }
            x.takeSnapshot();
            return going;
        }

        int stops(int s) {
            if (isNoStore(s)) {
                return NO_SUCH;
            }
            Store x = stores[s];
            if (!x.up) {
                return NOT_NOW;
            }
            int role = x.role;
            x.goesDown();
            return role;
        }

        int starts(int s) {
            if (isNoStore(s)) {
                return NO_SUCH;
            }
            Store x = stores[s];
            if (x.up) {
                return NOT_NOW;
            }
            x.up = true;
            return x.last;
        }

        int links(int a, int b, int how) {
            if (isNoStore(a) || isNoStore(b)) {
                return NO_SUCH;
            }
            if (how < 0 || how > 1 || a == b) {
                return BAD_NUMBER;
            }
            if (mail.isCut(a, b) == (how == 0)) {
                return 0;
            }
            mail.turnLink(a, b);
            return 1;
        }

        private boolean isNoMessage(int i) {
            return i < 0 || i >= mail.waiting;
        }

        int comes(int i) {
            return isNoMessage(i) ? NO_SUCH : takeIn(i);
        }

        int loses(int i) {
            if (isNoMessage(i)) {
                return NO_SUCH;
            }
            mail.takeOut(i);
            mail.lost++;
            return mail.waiting;
        }

        int doubles(int i) {
            if (isNoMessage(i)) {
                return NO_SUCH;
            }
            if (mail.waiting >= WAIT_MOST) {
                return TOO_MANY;
            }
            mail.box[mail.waiting].copyFrom(mail.box[i]);
            mail.waiting++;
            return mail.waiting;
        }

        int settles(int n) {
            if (n < 1 || n > SETTLE_MOST) {
                return BAD_NUMBER;
            }
            if (mail.waiting == 0) {
                return NOT_NOW;
            }
            int done = 0;
            while (done < n && mail.waiting > 0) {
                takeIn(0);
                done++;
            }
            return done;
        }

        boolean canCome(Message m) {
            return stores[m.to].up && !mail.isCut(m.from, m.to);
        }

        int whoIsUp() {
            int bits = 0;
            for (int s = 0; s < STORES; s++) {
                if (stores[s].up) {
                    bits |= 1 << s;
                }
            }
            return bits;
        }

        /** Each hear..() answers what is still to be done, so that calls don't nest as the rules do. */
        int takeIn(int i) {
            Message m = mail.takeOut(i);
            if (!canCome(m)) {
                mail.lost++;
                return 0;
            }
            mail.came++;
            Store x = stores[m.to];
            if (m.term > x.term && m.kind < MAY) {
                x.fallBack(m.term);
            }
            int todo = 0;
            switch (m.kind) {
                case ASK: hearAsk(x, m); break;
                case VOTE: todo = hearVote(x, m); break;
                case TAKE: hearTake(x, m); break;
                case TOOK: todo = hearTook(x, m); break;
                case INSTALL: hearInstall(x, m); break;
                case INSTALLED: todo = hearInstalled(x, m); break;
                case NOW: todo = hearNow(x, m); break;
                case MAY: hearMay(x, m); break;
                default: todo = hearWould(x, m); break;
            }
            finish(x, todo, m.from);
            return 1;
        }

        private void hearAsk(Store x, Message m) {
            boolean free = x.voted == NONE || x.voted == m.from;
            boolean granted = m.term >= x.term && free && x.findsFresh(m.b, m.a);
            if (granted) {
                x.voted = m.from;
            }
            mail.post(x.id, m.from, VOTE, x.term).a = granted ? 1 : 0;
        }

        private int hearVote(Store x, Message m) {
            if (m.a != 1 || m.term != x.term || x.role != CANDIDATE) {
                return 0;
            }
            x.votes |= 1 << m.from;
            return x.isMajority(x.votes) ? LEADS : 0;
        }

        private void hearTake(Store x, Message m) {
            boolean takes = false;
            int place = x.last;
            if (m.term >= x.term) {
                x.becomes(FOLLOWER);
                if (m.a <= x.last) {
                    takes = m.a < x.snap.place || x.termAt(m.a) == m.b;
                    place = takes ? m.a + m.count : m.a - 1;
                }
            }
            if (takes) {
                x.takeEntries(m);
                agreeUpTo(x, Math.min(m.agreed, place));
            }
            Message answer = mail.post(x.id, m.from, TOOK, x.term);
            answer.a = takes ? 1 : 0;
            answer.b = place;
            answer.round = m.round;
        }

        private int hearTook(Store x, Message m) {
            if (m.term != x.term || x.role != LEADER) {
                return 0;
            }
            if (x.answersRead(m.from, m.round)) {
                x.answerRead();
            }
            int who = m.from;
            if (m.a == 1) {
                x.has[who] = Math.max(x.has[who], m.b);
                x.next[who] = x.has[who] + 1;
                return AGREES | GOES_ON;
            }
            x.next[who] = Math.max(Math.min(x.next[who], m.b + 1), x.has[who] + 1);
            send(x, who);
            return 0;
        }

        private void hearInstall(Store x, Message m) {
            int place = 0;
            if (m.term >= x.term) {
                x.becomes(FOLLOWER);
                place = m.a;
                if (place > x.agreed) {
                    x.install(m);
                }
            }
            Message answer = mail.post(x.id, m.from, INSTALLED, x.term);
            answer.a = place;
            answer.round = m.round;
        }

        private int hearInstalled(Store x, Message m) {
            if (m.term != x.term || x.role != LEADER) {
                return 0;
            }
            if (x.answersRead(m.from, m.round)) {
                x.answerRead();
            }
            if (m.a <= 0) {
                return 0;
            }
            int who = m.from;
            x.has[who] = Math.max(x.has[who], m.a);
            x.next[who] = Math.max(x.next[who], x.has[who] + 1);
            return AGREES | GOES_ON;
        }

        private int hearNow(Store x, Message m) {
            boolean fits = m.term == x.term && x.isMember(x.id) && x.role != LEADER;
            return fits && x.term < TERM_MOST ? STANDS : 0;
        }

        private void hearMay(Store x, Message m) {
            boolean would = m.term > x.term && x.role != LEADER && x.findsFresh(m.b, m.a);
            mail.post(x.id, m.from, WOULD, would ? m.term : x.term).a = would ? 1 : 0;
        }

        private int hearWould(Store x, Message m) {
            if (x.role != ASKS_FIRST) {
                return 0;
            }
            if (m.a == 1 && m.term == x.term + 1) {
                x.votes |= 1 << m.from;
                return x.isMajority(x.votes) ? STANDS : 0;
            }
            if (m.a == 0 && m.term > x.term) {
                x.fallBack(m.term);
            }
            return 0;
        }

        private void finish(Store x, int todo, int other) {
            int left = todo;
            if ((left & STANDS) != 0) {
                left |= stand(x);
            }
            if ((left & LEADS) != 0) {
                lead(x);
                left |= SENDS | AGREES;
            }
            boolean sends = (left & SENDS) != 0;
            boolean agrees = (left & AGREES) != 0;
            for (int i = 0; i < AGREE_MOST && (sends || agrees); i++) {
                if (sends) {
                    sendToAll(x);
                }
                if (agrees) {
                    agreeUpTo(x, greatestShared(x));
                }
                sends = agrees && leavesJoint(x);
                agrees = sends;
            }
            if ((left & GOES_ON) != 0 && x.role == LEADER && x.next[other] <= x.last) {
                send(x, other);
            }
        }

        private int askFirst(Store x) {
            x.becomes(ASKS_FIRST);
            x.votes = 1 << x.id;
            postToMembers(x, MAY, x.term + 1);
            return x.isMajority(x.votes) ? STANDS : 0;
        }

        private int stand(Store x) {
            x.term++;
            x.becomes(CANDIDATE);
            x.voted = x.id;
            x.votes = 1 << x.id;
            postToMembers(x, ASK, x.term);
            return x.isMajority(x.votes) ? LEADS : 0;
        }

        private void postToMembers(Store x, int kind, int term) {
            for (int t = 0; t < STORES; t++) {
                if (t != x.id && x.isMember(t)) {
                    Message m = mail.post(x.id, t, kind, term);
                    m.a = x.last;
                    m.b = x.termAt(x.last);
                }
            }
        }

        private void lead(Store x) {
            x.becomes(LEADER);
            x.reading.clear();
            for (int t = 0; t < STORES; t++) {
                x.next[t] = x.last + 1;
                x.has[t] = 0;
            }
            leadersOf[x.term] |= 1 << x.id;
            x.append(Entry.of(x.term, NOTHING, 0, 0));
        }

        void sendToAll(Store x) {
            for (int t = 0; t < STORES; t++) {
                if (t != x.id && x.isMember(t)) {
                    send(x, t);
                }
            }
        }

        void send(Store x, int to) {
            boolean installs = x.next[to] <= x.snap.place;
            Message m = mail.post(x.id, to, installs ? INSTALL : TAKE, x.term);
            m.round = x.round;
            if (installs) {
                m.a = x.snap.place;
                m.b = x.snap.term;
                System.arraycopy(x.snap.cells, 0, m.load, 0, CELLS);
                m.load[CELLS] = x.snap.set;
                m.load[CELLS + 1] = x.snap.second;
                return;
            }
            m.a = x.next[to] - 1;
            m.b = x.termAt(m.a);
            m.agreed = x.agreed;
            m.count = Math.max(0, Math.min(TAKE_MOST, x.last - m.a));
            System.arraycopy(x.log, m.a + 1, m.load, 0, m.count);
        }

        /** Answers whether an entry NEW came, behind which the leader sends and agrees again. */
        private boolean leavesJoint(Store x) {
            if (x.told > x.agreed) {
                return false;
            }
            if (x.second == 0) {
                if (!x.isMember(x.id)) {
                    x.becomes(FOLLOWER);
                }
                return false;
            }
            if (x.last >= LOG_MOST) {
                return false;
            }
            x.append(Entry.of(x.term, NEW, x.second, 0));
            return true;
        }

        private int greatestShared(Store x) {
            for (int p = x.last; p > x.agreed; p--) {
                if (Entry.termOf(x.log[p]) != x.term) {
                    continue;
                }
                int bits = 1 << x.id;
                for (int t = 0; t < STORES; t++) {
                    if (x.has[t] >= p) {
                        bits |= 1 << t;
                    }
                }
                if (x.isMajority(bits)) {
                    return p;
                }
            }
            return x.agreed;
        }

        private void agreeUpTo(Store x, int place) {
            int end = Math.min(place, x.last);
            for (int p = x.agreed + 1; p <= end; p++) {
                int entry = x.log[p];
                int cell = Entry.cellOf(entry);
                switch (Entry.kindOf(entry)) {
                    case SET: x.cells[cell] = Entry.numberOf(entry); break;
                    case ADD: x.cells[cell] += Entry.numberOf(entry); break;
                    default: break;
                }
                if (firstAgreed[p] == 0) {
                    firstAgreed[p] = entry;
                }
            }
            x.agreed = Math.max(x.agreed, end);
        }
    }

    /** What can be asked of a world that stays as it is. */
    private static final class Survey {
        static int storeFact(World w, int s, int what) {
            if (isNoStore(s)) {
                return NO_SUCH;
            }
            Store x = w.stores[s];
            switch (what) {
                case 0: return x.up ? 1 : 0;
                case 1: return x.term;
                case 2: return x.voted;
                case 3: return x.role;
                case 4: return x.last;
                case 5: return x.termAt(x.last);
                case 6: return x.snap.place;
                case 7: return x.snap.term;
                case 8: return x.agreed;
                case 9: return x.set;
                case 10: return x.second;
                case 11: return x.votes;
                case 12: return x.reading.state;
                case 13: return x.reading.state == READ_NONE ? NONE : x.reading.cell;
                case 14: return x.reading.number;
                case 15: return x.round;
                case 16: return x.reading.heard;
                default: return NO_SUCH;
            }
        }

        static int messageFact(World w, int i, int what) {
            if (i < 0 || i >= w.mail.waiting) {
                return NO_SUCH;
            }
            Message m = w.mail.box[i];
            switch (what) {
                case 0: return m.from;
                case 1: return m.to;
                case 2: return m.kind;
                case 3: return m.term;
                case 4: return m.a;
                case 5: return m.b;
                case 6: return m.count;
                case 7: return m.agreed;
                case 8: return w.canCome(m) ? 1 : 0;
                case 9: return m.round;
                default: return NO_SUCH;
            }
        }

        static int alikeUpTo(Store a, Store b) {
            int least = Math.max(1, Math.max(a.snap.place, b.snap.place));
            for (int p = Math.min(a.last, b.last); p >= least; p--) {
                if (a.termAt(p) == b.termAt(p)) {
                    return p;
                }
            }
            return 0;
        }

        static int granting(World w, int s) {
            Store x = w.stores[s];
            int lastTerm = x.termAt(x.last);
            int bits = 0;
            for (int t = 0; t < STORES; t++) {
                if (w.stores[t].findsFresh(lastTerm, x.last)) {
                    bits |= 1 << t;
                }
            }
            return bits;
        }

        static boolean canBeElected(World w, int s, int up) {
            Store x = w.stores[s];
            if ((up >> s & 1) == 0 || !x.isMember(s)) {
                return false;
            }
            return x.isMajority(granting(w, s) & up & reachable(w, s));
        }

        static int reachable(World w, int s) {
            int bits = 1 << s;
            for (int t = 0; t < STORES; t++) {
                if (!w.mail.isCut(s, t)) {
                    bits |= 1 << t;
                }
            }
            return bits;
        }

        static int fewestStops(World w) {
            int up = w.whoIsUp();
            int fewest = Integer.bitCount(up);
            for (int left = 0; left <= ALL_STORES; left++) {
                int stopped = Integer.bitCount(up & ~left);
                if ((left & ~up) == 0 && stopped < fewest && !hasElectable(w, left)) {
                    fewest = stopped;
                }
            }
            return fewest;
        }

        static boolean hasElectable(World w, int up) {
            for (int s = 0; s < STORES; s++) {
                if (canBeElected(w, s, up)) {
                    return true;
                }
            }
            return false;
        }

        static int holding(World w, int s, int place) {
            int term = w.stores[s].termAt(place);
            int first = w.firstAgreed[place];
            boolean wasAgreed = first != 0 && Entry.termOf(first) == term;
            int bits = 0;
            for (int t = 0; t < STORES; t++) {
                Store y = w.stores[t];
                boolean inLog = y.holds(place) && y.termAt(place) == term;
                if (inLog || wasAgreed && y.snap.place >= place) {
                    bits |= 1 << t;
                }
            }
            return bits;
        }

        static int leaderNow(World w) {
            int best = NONE;
            for (int s = 0; s < STORES; s++) {
                Store x = w.stores[s];
                if (x.role == LEADER && (best == NONE || x.term > w.stores[best].term)) {
                    best = s;
                }
            }
            return best;
        }

        static int countOf(World w, int what) {
            switch (what) {
                case 0: return w.mail.waiting;
                case 1: return w.mail.lost;
                case 2: return w.mail.came;
                case 3: return w.whoIsUp();
                case 4: return leadersNow(w);
                case 5: return greatestTerm(w);
                case 6: return greatestAgreed(w);
                case 8: return w.firstSet;
                case 9: return w.careful ? 1 : 0;
                default: return NONE;
            }
        }

        static int leadersNow(World w) {
            int bits = 0;
            for (int s = 0; s < STORES; s++) {
                if (w.stores[s].role == LEADER) {
                    bits |= 1 << s;
                }
            }
            return bits;
        }

        static int greatestTerm(World w) {
            int greatest = 0;
            for (int s = 0; s < STORES; s++) {
                greatest = Math.max(greatest, w.stores[s].term);
            }
            return greatest;
        }

        static int greatestAgreed(World w) {
            int greatest = 0;
            for (int s = 0; s < STORES; s++) {
                greatest = Math.max(greatest, w.stores[s].agreed);
            }
            return greatest;
        }
    }

    /** Copies of the world on which calls are tried out. */
    private static final class Paper {
        final World[] pages = new World[COULD_STEPS];
        final World sheet = new World();

        Paper() {
            for (int i = 0; i < COULD_STEPS; i++) {
                pages[i] = new World();
            }
        }

        private static int drain(World w) {
            int done = 0;
            while (done < PAPER_MOST && w.mail.waiting > 0) {
                w.takeIn(0);
                done++;
            }
            return done;
        }

        int wouldWin(World from, int s) {
            sheet.copyFrom(from);
            drain(sheet);
            if (!sheet.canTimeOut(s)) {
                return NONE;
            }
            sheet.timesOut(s);
            drain(sheet);
            return sheet.stores[s].role == LEADER ? 1 : 0;
        }

        int factThen(World from, int s, int what) {
            sheet.copyFrom(from);
            drain(sheet);
            return Survey.storeFact(sheet, s, what);
        }

        int stormOf(World from, int what) {
            sheet.copyFrom(from);
            int done = drain(sheet);
            return what == 0 ? done : sheet.mail.lost - from.mail.lost;
        }

        int roundsNeeded(World from) {
            int s = Survey.leaderNow(from);
            if (s == NONE) {
                return NONE;
            }
            sheet.copyFrom(from);
            Store x = sheet.stores[s];
            for (int round = 1; round <= ROUNDS_MOST; round++) {
                sheet.sendToAll(x);
                drain(sheet);
                if (x.role != LEADER) {
                    return NONE;
                }
                if (x.agreed == x.last && allAgreeWith(x)) {
                    return round;
                }
            }
            return NONE;
        }

        private boolean allAgreeWith(Store x) {
            int asked = (x.set | x.second) & sheet.whoIsUp() & Survey.reachable(sheet, x.id);
            for (int t = 0; t < STORES; t++) {
                if ((asked >> t & 1) == 1 && sheet.stores[t].agreed != x.agreed) {
                    return false;
                }
            }
            return true;
        }

        boolean couldLead(World from, int s, int n) {
            return reaches(pages, from, s, n);
        }

        /** left is the depth: each level writes on a page of its own. */
        private static boolean reaches(World[] pages, World from, int s, int left) {
            if (from.stores[s].role == LEADER) {
                return true;
            }
            if (left < 1 || left > pages.length) {
                return false;
            }
            World page = pages[left - 1];
            for (int t = 0; t < STORES; t++) {
                if ((t == s || left > 2) && from.canTimeOut(t)) {
                    page.copyFrom(from);
                    page.timesOut(t);
                    if (reaches(pages, page, s, left - 1)) {
                        return true;
                    }
                }
            }
            for (int i = 0; i < from.mail.waiting; i++) {
                Message m = from.mail.box[i];
                if (mayHelp(m, s, left) && from.canCome(m)) {
                    page.copyFrom(from);
                    page.takeIn(i);
                    if (reaches(pages, page, s, left - 1)) {
                        return true;
                    }
                }
            }
            return false;
        }

        /**
         * The last step can only be one that elects s, and the one ahead of it one that changes s
         * or has a vote sent to it; without this the tree is far too wide.
         */
        private static boolean mayHelp(Message m, int s, int left) {
            boolean asks = m.kind == ASK || m.kind == MAY;
            boolean elects = m.kind == VOTE || m.kind == NOW || m.kind == WOULD;
            switch (left) {
                case 1: return m.to == s && elects;
                case 2: return m.to == s || m.from == s && asks;
                default: return true;
            }
        }
    }

    /** THE TAPE, and how a SCRIPT is read from it. */
    private static final class Tape {
        static final int TIMEOUT = 0;
        static final int BEAT = 1;
        static final int SET_CELL = 2;
        static final int ADD_CELL = 3;
        static final int READ = 4;
        static final int HAND = 5;
        static final int CHANGE = 6;
        static final int COMPACT = 7;
        static final int STOP = 8;
        static final int START = 9;
        static final int CUT = 10;
        static final int JOIN = 11;
        static final int COME = 12;
        static final int LOSE = 13;
        static final int TWICE = 14;
        static final int SETTLE = 15;
        static final int TIMES = 17;

        private static final String WORDS =
            "timeout beat set add read hand change compact stop start cut join come lose twice settle careful times ";
        private static final int[] NUMBERS = {1, 1, 3, 3, 2, 2, 2, 1, 1, 1, 2, 2, 1, 1, 1, 1, 1};
        private static final int CANT_STAND = 1;
        private static final int WRONG_NUMBER = 2;
        private static final int TOO_DEEP = 3;
        private static final int NUMBERS_MOST = 3;
        private static final int DIGITS_MOST = 3;
        private static final int TIMES_MOST = 50;

        final int[] bytes = new int[TAPE_MOST];
        final int[] told = new int[NUMBERS_MOST];
        int size = 0;
        int fault = 0;
        int faultPlace = NONE;
        int end = 0;
        int at = 0;

        void append(int four) {
            for (int shift = 24; shift >= 0 && size < TAPE_MOST; shift -= 8) {
                bytes[size] = four >> shift & 255;
                size++;
            }
        }

        void parse(int n, Program program) {
            fault = 0;
            faultPlace = NONE;
            end = Math.min(n, TAPE_MOST);
            at = 0;
            program.clear();
            for (int i = 0; i <= TAPE_MOST && fault == 0; i++) {
                skipBlanks();
                if (at >= end) {
                    break;
                }
                parseItem(program);
            }
            if (fault == 0 && program.open > 0) {
                fail(CANT_STAND, end);
            }
        }

        private void fail(int which, int place) {
            fault = which;
            faultPlace = place;
        }

        private int here() {
            return at < end ? bytes[at] : NONE;
        }

        private void skipBlanks() {
            while (at < end && bytes[at] == ' ') {
                at++;
            }
        }

        private void parseItem(Program program) {
            int place = at;
            if (here() == '}' && program.open > 0) {
                at++;
                program.closeLoop();
                return;
            }
            int word = parseWord();
            if (word == NONE) {
                fail(CANT_STAND, place);
            } else if (word == TIMES) {
                parseTimes(program);
            } else {
                parseAct(program, word, place);
            }
        }

        /** The number of the word that stands here, NONE if it is none of a SCRIPT. */
        private int parseWord() {
            int start = at;
            while (at < end && bytes[at] >= 'a' && bytes[at] <= 'z') {
                at++;
            }
            int word = 0;
            int from = 0;
            for (int i = 0; i < WORDS.length(); i++) {
                if (WORDS.charAt(i) == ' ') {
                    if (i - from == at - start && isWord(start, from, i)) {
                        return word;
                    }
                    word++;
                    from = i + 1;
                }
            }
            return NONE;
        }

        private boolean isWord(int start, int from, int to) {
            for (int i = from; i < to; i++) {
                int k = start + i - from;
                if (k >= end || bytes[k] != WORDS.charAt(i)) {
                    return false;
                }
            }
            return true;
        }

        /** Stands ahead of digits, else it is a fault; where they begin is left to the caller. */
        private int parseNumber() {
            int start = at;
            int value = 0;
            while (at < end && bytes[at] >= '0' && bytes[at] <= '9') {
                if (at - start < DIGITS_MOST) {
                    value = value * 10 + bytes[at] - '0';
                }
                at++;
            }
            if (at == start) {
                fail(CANT_STAND, at);
            } else if (at - start > DIGITS_MOST) {
                fail(WRONG_NUMBER, start);
            }
            return value;
        }

        private void parseTimes(Program program) {
            skipBlanks();
            int start = at;
            int times = parseNumber();
            if (fault != 0) {
                return;
            }
            if (times < 1 || times > TIMES_MOST) {
                fail(WRONG_NUMBER, start);
                return;
            }
            skipBlanks();
            if (here() != '{') {
                fail(CANT_STAND, at);
            } else if (program.open >= Program.OPEN_MOST) {
                fail(TOO_DEEP, at);
            } else {
                at++;
                program.openLoop(times);
            }
        }

        private void parseAct(Program program, int word, int place) {
            int numbers = NUMBERS[word];
            for (int i = 0; i < numbers && fault == 0; i++) {
                skipBlanks();
                boolean minus = i == 2 && here() == '-';
                if (minus) {
                    at++;
                }
                int value = parseNumber();
                told[i] = minus ? -value : value;
            }
            skipBlanks();
            if (fault == 0 && here() != ';') {
                fail(CANT_STAND, at);
            }
            if (fault == 0) {
                at++;
                program.addAct(word, place, told);
            }
        }
    }

    /** A SCRIPT that was read: acts, and where loops open and close. */
    private static final class Program {
        static final int OPEN_MOST = 3;
        private static final int OPENS = 100;
        private static final int CLOSES = 101;

        final int[] ops = new int[TAPE_MOST];
        final int[] places = new int[TAPE_MOST];
        final int[] x = new int[TAPE_MOST];
        final int[] y = new int[TAPE_MOST];
        final int[] z = new int[TAPE_MOST];
        final int[] openAt = new int[OPEN_MOST];
        final int[] left = new int[OPEN_MOST];
        int size = 0;
        int open = 0;
        int at = 0;

        void clear() {
            size = 0;
            open = 0;
        }

        private void add(int op, int place, int first) {
            if (size < TAPE_MOST) {
                ops[size] = op;
                places[size] = place;
                x[size] = first;
                size++;
            }
        }

        void addAct(int op, int place, int[] numbers) {
            if (size < TAPE_MOST) {
                y[size] = numbers[1];
                z[size] = numbers[2];
                add(op, place, numbers[0]);
            }
        }

        void openLoop(int times) {
            if (open < OPEN_MOST) {
                openAt[open] = size;
                open++;
                add(OPENS, NONE, times);
            }
        }

        /** A loop without an act is left out, so that moveOn() never turns in one. */
        void closeLoop() {
            if (open > 0) {
                open--;
                if (size == openAt[open] + 1) {
                    size--;
                } else {
                    add(CLOSES, NONE, openAt[open]);
                }
            }
        }

        void rewind() {
            at = -1;
            open = 0;
        }

        /** Goes to the next act; false: there is none. */
        boolean moveOn() {
            for (int i = 0; i < TAPE_MOST; i++) {
                at++;
                if (at >= size) {
                    return false;
                }
                if (ops[at] == OPENS) {
                    if (open < OPEN_MOST) {
                        left[open] = x[at];
                        open++;
                    }
                } else if (ops[at] == CLOSES) {
                    turn();
                } else {
                    return true;
                }
            }
            return false;
        }

        private void turn() {
            if (open < 1) {
                return;
            }
            left[open - 1]--;
            if (left[open - 1] > 0) {
                at = x[at];
            } else {
                open--;
            }
        }
    }
}
