/** Promises 1 to 17: what happens, call by call; the answers due are read off the document by hand. */
public final class HappensTest {
    private static final int LOW = Integer.MIN_VALUE;
    private static final int HIGH = Integer.MAX_VALUE;

    private static void due(String what, long got, long want) {
        Check.due(what, got, want);
    }

    /** A new object in which a store has been elected and every message has come. */
    private static AgreedLog elected(int s) {
        AgreedLog x = new AgreedLog();
        x.timeout(s);
        x.settle(200);
        return x;
    }

    /** The one member of its set, elected at once. */
    private static AgreedLog alone() {
        AgreedLog x = new AgreedLog();
        x.begin(1);
        x.timeout(0);
        return x;
    }

    /** A store that nobody hears stands 199 times. */
    private static int raiseTerm(AgreedLog x, int s) {
        String others = "01234".replace("" + s, "");
        StringBuilder cut = new StringBuilder();
        for (char t : others.toCharArray()) {
            cut.append("cut ").append(s).append(' ').append(t).append(';');
        }
        String often = "times 3 { times 50 { timeout S; } } times 49 { timeout S; }".replace("S", "" + s);
        return Check.script(x, cut + often + cut.toString().replace("cut", "join"));
    }

    public static void main(String[] args) {
        newObject();
        begin();
        careful();
        timeout();
        timeoutsRefused();
        timeoutCareful();
        beat();
        propose();
        proposeRefused();
        read();
        readRefused();
        readGone();
        hand();
        change();
        changeAlone();
        compact();
        stop();
        start();
        link();
        come();
        votes();
        takes();
        takesBack();
        installs();
        installsKeep();
        would();
        lose();
        twice();
        settle();
        Check.end("HappensTest");
    }

    private static void newObject() {
        AgreedLog x = new AgreedLog();
        due("1 all UP", x.count(3), 31);
        due("1 the first set", x.count(8), 31);
        for (int s = 0; s < 5; s++) {
            due("1 UP", x.store(s, 0), 1);
            due("1 VOTED", x.store(s, 2), AgreedLog.NONE);
            due("1 MEMBERS", x.store(s, 9), 31);
            due("1 a second set", x.store(s, 10), 0);
            for (int what : new int[] {1, 3, 4, 5, 6, 7, 8, 11, 12, 14, 15, 16}) {
                due("1 store " + what, x.store(s, what), 0);
            }
            due("1 READ's CELL", x.store(s, 13), -1);
            for (int c = 0; c < 4; c++) {
                due("1 CELL", x.cell(s, c), 0);
            }
        }
        due("1 no IMAGE", x.restore(0), -6);
        due("1 no IMAGE", x.restore(1), -6);
        due("1 nothing to undo", x.count(7), 0);
    }

    private static void begin() {
        AgreedLog x = elected(0);
        for (int wrong : new int[] {0, -1, 32, LOW, HIGH}) {
            due("2 wrong set", x.begin(wrong), -3);
        }
        due("2 refused: nothing changes", x.leader(), 0);
        x.careful(1);
        x.link(0, 1, 0);
        x.propose(0, 1, 0, 5);
        x.stop(4);
        due("2 how many", x.begin(21), 3);
        due("2 first set", x.count(8), 21);
        due("2 nothing waits", x.count(0), 0);
        due("2 nothing was LOST", x.count(1), 0);
        due("2 nothing CAME", x.count(2), 0);
        due("2 all UP", x.count(3), 31);
        due("2 no leader", x.count(4), 0);
        due("2 TERM", x.count(5), 0);
        due("2 not CAREFUL", x.count(9), 0);
        due("2 linked", x.linked(0, 1), 1);
        due("2 FIRST AGREED", x.agreed(1, 0), -1000);
        due("2 LEADERS", x.leaders(1), 0);
        for (int s = 0; s < 5; s++) {
            due("2 MEMBERS", x.store(s, 9), 21);
            due("2 LAST", x.store(s, 4), 0);
            due("2 VOTED", x.store(s, 2), -1);
        }
        due("2 one", x.begin(16), 1);
        due("2 all", x.begin(31), 5);
        due("2 can be UNDONE", x.undo(1), 7);
        due("2 UNDONE", x.count(8), 16);
    }

    private static void careful() {
        AgreedLog x = new AgreedLog();
        due("3 was not", x.careful(1), 0);
        due("3 was", x.careful(1), 1);
        due("3 is", x.count(9), 1);
        for (int wrong : new int[] {-1, 2, LOW, HIGH}) {
            due("3 wrong", x.careful(wrong), -3);
        }
        due("3 still", x.count(9), 1);
        due("3 was", x.careful(0), 1);
        due("3 isn't", x.count(9), 0);
        due("3 each can be UNDONE", x.count(7), 3);
    }

    private static void timeout() {
        AgreedLog x = new AgreedLog();
        due("4 TERM", x.timeout(2), 1);
        due("4 candidate", x.store(2, 3), 1);
        due("4 VOTED", x.store(2, 2), 2);
        due("4 own vote", x.store(2, 11), 4);
        int[] to = {0, 1, 3, 4};
        due("4 ASKS", x.count(0), 4);
        for (int i = 0; i < 4; i++) {
            due("4 from", x.message(i, 0), 2);
            due("4 to, rising", x.message(i, 1), to[i]);
            due("4 ASK", x.message(i, 2), 0);
            due("4 its TERM", x.message(i, 3), 1);
        }
        due("4 again", x.timeout(2), 2);
        due("4 own vote alone", x.store(2, 11), 4);
        due("4 more wait", x.count(0), 8);
        x = alone();
        due("4 alone: leader", x.store(0, 3), 2);
        due("4 alone: an entry of KIND 0", x.entry(0, 1, 1), 0);
        due("4 alone: AGREED", x.store(0, 8), 1);
        due("4 LEADERS", x.leaders(1), 1);
        due("4 nothing SENT to oneself", x.count(0), 0);
        x = elected(0);
        x.propose(0, 1, 0, 5);
        x.settle(200);
        x.timeout(3);
        due("4 ASK tells LAST", x.message(0, 4), 2);
        due("4 and its TERM", x.message(0, 5), 1);
        // By JOINT members of both sets are asked.
        x = new AgreedLog();
        x.begin(3);
        x.timeout(0);
        x.settle(200);
        x.change(0, 12);
        x.settle(2);
        x.begin(3);
        due("4 a member only", x.timeout(1), 1);
        due("4 asks members only", x.count(0), 1);
    }

    private static void timeoutsRefused() {
        AgreedLog x = new AgreedLog();
        for (int wrong : new int[] {-1, 5, LOW, HIGH}) {
            due("4 no such", x.timeout(wrong), -2);
        }
        x.stop(1);
        due("4 not UP", x.timeout(1), -5);
        x = elected(0);
        due("4 the leader", x.timeout(0), -5);
        x.begin(7);
        due("4 no MEMBER", x.timeout(3), -5);
        due("4 a MEMBER", x.timeout(2), 1);
        x.begin(31);
        due("4 199 timeouts", raiseTerm(x, 0), 207);
        due("4 TERM 200 is the last", x.timeout(0), 200);
        due("4 none above", x.timeout(0), -5);
        due("4 TERM stays", x.store(0, 1), 200);
        x.settle(60);
        due("4 one that has it by a message", x.timeout(1), -5);
    }

    private static void timeoutCareful() {
        AgreedLog x = new AgreedLog();
        x.careful(1);
        due("4 TERM stays", x.timeout(3), 0);
        due("4 asks first", x.store(3, 3), 3);
        due("4 VOTED none", x.store(3, 2), -1);
        due("4 own vote", x.store(3, 11), 8);
        due("4 MAY", x.message(0, 2), 7);
        due("4 a TERM more", x.message(0, 3), 1);
        due("4 rising", x.message(3, 1), 4);
        x.come(0);
        due("4 WOULD", x.message(3, 2), 8);
        due("4 WOULD 1", x.message(3, 4), 1);
        due("4 the other's TERM stays", x.store(0, 1), 0);
        x.come(3);
        due("4 a vote", x.store(3, 11), 9);
        x.come(0);
        x.come(2);
        due("4 a MAJORITY stands", x.store(3, 3), 1);
        due("4 TERM then", x.store(3, 1), 1);
        due("4 votes anew", x.store(3, 11), 8);
        due("4 ASK", x.first(3, 0, 0), 2);
        x.begin(2);
        x.careful(1);
        due("4 alone", x.timeout(1), 1);
        due("4 alone: leader", x.store(1, 3), 2);
        x.begin(31);
        x.careful(1);
        x.timeout(0);
        x.come(0);
        x.come(3);
        due("4 two votes", x.store(0, 11), 3);
        x.timeout(0);
        due("4 its own alone again", x.store(0, 11), 1);
    }

    private static void beat() {
        AgreedLog x = elected(0);
        due("5 how many wait", x.beat(0), 4);
        due("5 TAKE", x.message(0, 2), 2);
        due("5 BEFORE", x.message(0, 4), 1);
        due("5 its TERM", x.message(0, 5), 1);
        due("5 no entries", x.message(0, 6), 0);
        due("5 AGREED", x.message(0, 7), 1);
        due("5 again", x.beat(0), 8);
        for (int wrong : new int[] {-1, 5, LOW, HIGH}) {
            due("5 no such", x.beat(wrong), -2);
        }
        due("5 no leader", x.beat(1), -5);
        x.settle(200);
        x.link(0, 2, 0);
        due("5 one is LOST", x.beat(0), 3);
        due("5 LOST", x.count(1), 1);
        x.stop(0);
        due("5 stopped", x.beat(0), -5);
    }

    private static void propose() {
        AgreedLog x = elected(0);
        due("6 place", x.propose(0, 1, 3, -999), 2);
        due("6 next", x.propose(0, 2, 3, 999), 3);
        due("6 SET", x.entry(0, 2, 1), 1);
        due("6 its number", x.entry(0, 2, 3), -999);
        due("6 ADD", x.entry(0, 3, 1), 2);
        due("6 CELL", x.entry(0, 3, 2), 3);
        due("6 TERM", x.entry(0, 3, 0), 1);
        due("6 it SENDS", x.count(0), 8);
        due("6 one entry", x.message(0, 6), 1);
        due("6 two entries: NEXT is as it was", x.message(4, 6), 2);
        due("6 not AGREED yet", x.store(0, 8), 1);
        due("6 not done yet", x.cell(0, 3), 0);
        x.settle(200);
        due("6 AGREED", x.store(0, 8), 3);
        due("6 SET and ADD", x.cell(0, 3), 0);
        x.propose(0, 2, 3, 5);
        x.propose(0, 2, 3, 6);
        x.settle(200);
        due("6 added", x.cell(0, 3), 11);
        x.propose(0, 1, 3, 2);
        x.settle(200);
        due("6 set", x.cell(0, 3), 2);
        x = alone();
        due("6 alone", x.propose(0, 2, 1, -7), 2);
        due("6 alone: AGREED at once", x.cell(0, 1), -7);
        // At most three entries go with one message.
        x = elected(0);
        for (int i = 0; i < 5; i++) {
            x.propose(0, 1, 0, i);
        }
        due("6 three at most", x.message(16, 6), 3);
    }

    private static void proposeRefused() {
        AgreedLog x = elected(0);
        for (int wrong : new int[] {-1, 5, LOW, HIGH}) {
            due("6 no such STORE", x.propose(wrong, 1, 0, 1), -2);
        }
        for (int wrong : new int[] {0, 3, -1, LOW, HIGH}) {
            due("6 no such kind", x.propose(0, wrong, 0, 1), -2);
        }
        for (int wrong : new int[] {-1, 4, LOW, HIGH}) {
            due("6 no such CELL", x.propose(0, 1, wrong, 1), -2);
        }
        for (int wrong : new int[] {-1000, 1000, LOW, HIGH}) {
            due("6 number", x.propose(0, 1, 0, wrong), -3);
            due("6 -2 ahead of -3", x.propose(0, 3, 0, wrong), -2);
            due("6 -3 ahead of -5", x.propose(1, 1, 0, wrong), -3);
        }
        due("6 no leader", x.propose(1, 1, 0, 1), -5);
        due("6 nothing came of it", x.store(0, 4), 1);
        x = alone();
        due("6 98 entries", Check.script(x, "times 49 { add 0 0 1; add 0 0 1; }"), 98);
        due("6 LAST is 99", x.store(0, 4), 99);
        due("6 the 100th", x.propose(0, 1, 1, 1), 100);
        due("6 too many", x.propose(0, 1, 1, 1), -4);
        due("6 -3 ahead of -4", x.propose(0, 1, 1, 1000), -3);
        due("6 -5 ahead of -4", x.propose(1, 1, 1, 1), -5);
        due("9 too many", x.change(0, 3), -4);
    }

    private static void read() {
        AgreedLog x = elected(0);
        x.propose(0, 1, 2, 77);
        x.settle(200);
        due("7 waits", x.read(0, 2), 1);
        due("7 READ", x.store(0, 12), 1);
        due("7 CELL", x.store(0, 13), 2);
        due("7 no number yet", x.store(0, 14), 0);
        due("7 ROUND", x.store(0, 15), 1);
        due("7 heard itself", x.store(0, 16), 1);
        due("7 SENDS to all", x.count(0), 4);
        due("7 with the ROUND", x.message(3, 9), 1);
        x.come(0);
        due("7 TOOK has the ROUND", x.message(3, 9), 1);
        x.come(3);
        due("7 heard two", x.store(0, 16), 3);
        x.come(2);
        x.come(2);
        due("7 answered", x.store(0, 12), 2);
        due("7 CELL still", x.store(0, 13), 2);
        due("7 number", x.store(0, 14), 77);
        due("7 nobody is heard for it", x.store(0, 16), 0);
        due("7 another one", x.read(0, 1), 1);
        due("7 ROUND", x.store(0, 15), 2);
        x = alone();
        x.propose(0, 1, 1, -3);
        due("7 alone", x.read(0, 1), 2);
        due("7 alone: number", x.store(0, 14), -3);
        due("7 alone: ROUND", x.store(0, 15), 1);
        due("7 alone: heard", x.store(0, 16), 0);
        // Answers to what was SENT ahead of the READ don't count for it.
        x = elected(0);
        x.beat(0);
        x.settle(4);
        due("7 waits", x.read(0, 0), 1);
        x.settle(4);
        due("7 older ROUND isn't heard", x.store(0, 16), 1);
        x.settle(200);
        due("7 then it is", x.store(0, 12), 2);
    }

    private static void readRefused() {
        AgreedLog x = elected(0);
        for (int wrong : new int[] {-1, 5, LOW, HIGH}) {
            due("7 no such STORE", x.read(wrong, 0), -2);
        }
        for (int wrong : new int[] {-1, 4, LOW, HIGH}) {
            due("7 no such CELL", x.read(0, wrong), -2);
            due("7 -2 ahead of -5", x.read(1, wrong), -2);
        }
        due("7 no leader", x.read(1, 0), -5);
        due("7 waits", x.read(0, 0), 1);
        due("7 one waits", x.read(0, 0), -5);
        due("7 ROUND stays", x.store(0, 15), 1);
        // The leader's own TERM must be AGREED to first.
        x = new AgreedLog();
        x.timeout(0);
        x.settle(8);
        due("7 elected", x.leader(), 0);
        due("7 nothing AGREED", x.read(0, 0), -5);
        x.settle(200);
        x.timeout(1);
        x.settle(8);
        due("7 elected", x.leader(), 1);
        due("7 AGREED of an older TERM", x.read(1, 0), -5);
        x.settle(200);
        due("7 AGREED of its own", x.read(1, 0), 1);
        x.settle(200);
        due("10 compact", x.compact(1), 2);
        due("7 the SNAPSHOT's TERM", x.read(1, 0), 1);
    }

    private static void readGone() {
        AgreedLog x = elected(0);
        x.read(0, 1);
        x.timeout(1);
        due("an ASK", x.come(x.first(1, 0, 0)), 1);
        due("follower", x.store(0, 3), 0);
        due("a READ that waits is gone", x.store(0, 12), 0);
        due("no CELL", x.store(0, 13), -1);
        due("nobody heard", x.store(0, 16), 0);
        x = elected(0);
        x.read(0, 1);
        x.settle(200);
        x.timeout(1);
        x.come(0);
        due("an answered one stays", x.store(0, 12), 2);
        due("its CELL", x.store(0, 13), 1);
        x.stop(0);
        due("STOP: none", x.store(0, 12), 0);
        due("STOP: no CELL", x.store(0, 13), -1);
        x = elected(0);
        x.read(0, 1);
        x.settle(200);
        x.timeout(1);
        x.settle(200);
        due("answered still", x.store(0, 12), 2);
        x.timeout(0);
        x.settle(200);
        due("leader again", x.leader(), 0);
        due("READ 0 then", x.store(0, 12), 0);
        due("ROUND goes on", x.store(0, 15), 1);
    }

    private static void hand() {
        AgreedLog x = elected(0);
        due("8 how many wait", x.hand(0, 4), 1);
        due("8 NOW", x.message(0, 2), 6);
        due("8 to", x.message(0, 1), 4);
        due("8 TERM", x.message(0, 3), 1);
        due("8 4", x.message(0, 4), 0);
        due("8 5", x.message(0, 5), 0);
        due("8 ROUND", x.message(0, 9), 0);
        due("8 still the leader", x.store(0, 3), 2);
        x.come(0);
        due("8 it STANDS", x.store(4, 3), 1);
        due("8 TERM", x.store(4, 1), 2);
        x.settle(200);
        due("8 leader", x.leader(), 4);
        due("8 follower", x.store(0, 3), 0);
        x = elected(0);
        for (int wrong : new int[] {-1, 5, LOW, HIGH}) {
            due("8 no such", x.hand(wrong, 0), -2);
            due("8 no such", x.hand(0, wrong), -2);
        }
        due("8 one", x.hand(0, 0), -3);
        due("8 one, -3 ahead of -5", x.hand(1, 1), -3);
        due("8 no leader", x.hand(1, 0), -5);
        x.propose(0, 1, 0, 1);
        due("8 HAS isn't LAST", x.hand(0, 1), -5);
        x.settle(200);
        due("8 HAS is LAST", x.hand(0, 1), 1);
        x.begin(7);
        x.timeout(0);
        x.settle(200);
        due("8 no MEMBER", x.hand(0, 3), -5);
        // Nothing comes of NOW at a leader, of an older TERM, at one that is no MEMBER by its own.
        x = elected(0);
        x.hand(0, 1);
        x.twice(0);
        x.come(0);
        x.settle(200);
        due("8 an older NOW", x.leader(), 1);
        due("8 TERM", x.store(1, 1), 2);
        // It STANDS without being CAREFUL.
        x = elected(0);
        x.careful(1);
        x.hand(0, 2);
        x.come(0);
        due("8 stands at once", x.store(2, 3), 1);
        x = elected(0);
        x.begin(31);
        raiseTerm(x, 1);
        due("8 TERM 200", x.timeout(1), 200);
        x.settle(200);
        due("8 leader of TERM 200", x.leader(), 1);
        due("8 NOW", x.hand(1, 3), 1);
        x.come(0);
        due("8 none stands above 200", x.store(3, 3), 0);
        due("8 none stands above 200", x.store(3, 1), 200);
    }

    private static void change() {
        AgreedLog x = new AgreedLog();
        x.begin(7);
        x.timeout(0);
        x.settle(200);
        for (int wrong : new int[] {-1, 5, LOW, HIGH}) {
            due("9 no such", x.change(wrong, 3), -2);
            due("9 -2 ahead of -3", x.change(wrong, 0), -2);
        }
        for (int wrong : new int[] {0, 32, -1, LOW, HIGH}) {
            due("9 wrong set", x.change(0, wrong), -3);
            due("9 -3 ahead of -5", x.change(1, wrong), -3);
        }
        due("9 no leader", x.change(1, 3), -5);
        due("9 those told", x.change(0, 7), -5);
        due("9 place", x.change(0, 24), 2);
        due("9 JOINT", x.entry(0, 2, 1), 3);
        due("9 first set", x.entry(0, 2, 2), 7);
        due("9 second set", x.entry(0, 2, 3), 24);
        due("9 MEMBERS at once", x.store(0, 9), 7);
        due("9 MEMBERS at once", x.store(0, 10), 24);
        due("9 SENT to both sets", x.count(0), 4);
        due("9 JOINT already", x.change(0, 3), -5);
        x.settle(3);
        due("9 not AGREED: the second set lacks it", x.store(0, 8), 1);
        x.settle(200);
        due("9 NEW", x.entry(0, 3, 1), 4);
        due("9 NEW's set", x.entry(0, 3, 2), 24);
        due("9 NEW's number", x.entry(0, 3, 3), 0);
        due("9 not in it: ROLE 0", x.store(0, 3), 0);
        due("9 AGREED", x.store(0, 8), 3);
        due("9 MEMBERS", x.store(0, 9), 24);
        due("9 one set", x.store(0, 10), 0);
        due("4 not a MEMBER any more", x.timeout(0), -5);
        due("4 a MEMBER now", x.timeout(3), 2);
        // By an entry that isn't AGREED: refused.
        x.begin(3);
        x.timeout(0);
        x.settle(200);
        due("9 JOINT", x.change(0, 1), 2);
        x.settle(2);
        due("9 NEW", x.store(0, 4), 3);
        due("9 NEW is AGREED by it alone", x.store(0, 8), 3);
        due("9 place", x.change(0, 7), 4);
        x.settle(2);
        due("9 JOINT AGREED needs both", x.store(0, 8), 3);
        x.settle(200);
        x.begin(7);
        x.timeout(0);
        x.settle(200);
        x.change(0, 15);
        while (x.store(0, 10) != 0 && x.count(0) > 0) {
            x.come(0);
        }
        due("9 NEW isn't AGREED", x.store(0, 8), 2);
        due("9 MEMBERS by one not AGREED", x.change(0, 3), -5);
        x.settle(200);
        due("9 AGREED", x.change(0, 3), 4);
    }

    private static void changeAlone() {
        AgreedLog x = alone();
        due("9 alone to another one", x.change(0, 2), 2);
        due("9 SENT", x.count(0), 1);
        x.settle(200);
        due("9 handed to the new set", x.store(0, 3), 0);
        due("9 its MEMBERS", x.store(1, 9), 2);
        due("9 alone", x.timeout(1), 2);
        due("9 leader", x.leader(), 1);
        due("9 AGREED", x.store(1, 8), 4);
    }

    private static void compact() {
        AgreedLog x = elected(0);
        x.propose(0, 1, 1, 6);
        x.propose(0, 1, 2, 7);
        x.settle(200);
        for (int wrong : new int[] {-1, 5, LOW, HIGH}) {
            due("10 no such", x.compact(wrong), -2);
        }
        due("10 how many go", x.compact(0), 3);
        due("10 place", x.store(0, 6), 3);
        due("10 TERM", x.store(0, 7), 1);
        due("10 LAST", x.store(0, 4), 3);
        due("10 TERM there", x.store(0, 5), 1);
        due("10 gone", x.entry(0, 3, 0), -1000);
        due("10 CELLS stay", x.cell(0, 2), 7);
        due("10 none would", x.compact(0), -5);
        x.propose(0, 2, 1, 1);
        due("10 not AGREED", x.compact(0), -5);
        x.settle(200);
        due("10 one", x.compact(0), 1);
        x.stop(1);
        due("10 not UP", x.compact(1), -5);
        due("10 nothing AGREED", new AgreedLog().compact(0), -5);
        // The SNAPSHOT tells the MEMBERS that hold at its place, not later ones.
        x = new AgreedLog();
        x.begin(7);
        x.timeout(0);
        x.settle(200);
        x.change(0, 14);
        due("10 ahead of JOINT", x.compact(0), 1);
        due("10 MEMBERS by the LOG", x.store(0, 10), 14);
        x.come(x.first(0, 1, 2));
        x.come(x.first(1, 0, 3));
        due("10 JOINT not AGREED by one set", x.store(0, 8), 1);
        x.come(x.first(0, 3, 4));
        due("10 MEMBERS told by the SNAPSHOT", x.store(3, 9), 7);
        due("10 MEMBERS told by the SNAPSHOT", x.store(3, 10), 0);
    }

    private static void stop() {
        AgreedLog x = elected(0);
        x.propose(0, 1, 1, 6);
        x.settle(200);
        for (int wrong : new int[] {-1, 5, LOW, HIGH}) {
            due("11 no such", x.stop(wrong), -2);
        }
        due("11 ROLE", x.stop(0), 2);
        due("11 not UP", x.store(0, 0), 0);
        due("11 again", x.stop(0), -5);
        due("11 ROLE 0", x.store(0, 3), 0);
        due("11 TERM stays", x.store(0, 1), 1);
        due("11 VOTED stays", x.store(0, 2), 0);
        due("11 LOG stays", x.store(0, 4), 2);
        due("11 AGREED", x.store(0, 8), 0);
        due("11 CELLS", x.cell(0, 1), 0);
        due("11 FIRST AGREED stays", x.agreed(2, 3), 6);
        due("11 follower", x.stop(1), 0);
        x.timeout(2);
        due("11 candidate", x.stop(2), 1);
        due("11 votes gone", x.store(2, 11), 0);
        x = elected(0);
        x.propose(0, 1, 1, 6);
        x.settle(200);
        x.compact(0);
        x.propose(0, 1, 1, 9);
        x.settle(200);
        due("11 ahead", x.cell(0, 1), 9);
        x.stop(0);
        due("11 AGREED is the SNAPSHOT's", x.store(0, 8), 2);
        due("11 CELLS are", x.cell(0, 1), 6);
        x.begin(31);
        x.careful(1);
        x.timeout(4);
        due("11 one that asks first", x.stop(4), 3);
    }

    private static void start() {
        AgreedLog x = elected(0);
        for (int wrong : new int[] {-1, 5, LOW, HIGH}) {
            due("12 no such", x.start(wrong), -2);
        }
        due("12 UP", x.start(1), -5);
        x.stop(1);
        due("12 LAST", x.start(1), 1);
        due("12 UP again", x.store(1, 0), 1);
        due("12 UP", x.count(3), 31);
        due("12 UP", x.start(1), -5);
        x.stop(0);
        x.start(0);
        due("12 no leader any more", x.beat(0), -5);
        due("12 can stand again", x.timeout(0), 2);
    }

    private static void link() {
        AgreedLog x = elected(0);
        for (int wrong : new int[] {-1, 5, LOW, HIGH}) {
            due("13 no such", x.link(wrong, 0, 0), -2);
            due("13 no such", x.link(0, wrong, 0), -2);
            due("13 -2 ahead of -3", x.link(0, wrong, 2), -2);
        }
        for (int wrong : new int[] {-1, 2, LOW, HIGH}) {
            due("13 how", x.link(0, 1, wrong), -3);
        }
        due("13 one", x.link(2, 2, 0), -3);
        due("13 there already", x.link(0, 1, 1), 0);
        due("13 cut", x.link(1, 0, 0), 1);
        due("13 cut already", x.link(0, 1, 0), 0);
        due("13 both ways", x.linked(0, 1), 0);
        due("13 both ways", x.linked(1, 0), 0);
        due("13 others stay", x.linked(0, 2), 1);
        due("13 LOST at once", x.beat(0), 3);
        due("13 again", x.link(0, 1, 1), 1);
        due("13 there", x.linked(1, 0), 1);
        due("13 also if nothing changes: UNDONE", x.count(7), 7);
    }

    private static void come() {
        AgreedLog x = new AgreedLog();
        due("14 none", x.come(0), -2);
        x.timeout(0);
        for (int wrong : new int[] {-1, 4, LOW, HIGH}) {
            due("14 none such", x.come(wrong), -2);
        }
        due("14 came", x.come(1), 1);
        due("14 it is gone, VOTE waits", x.first(0, 2, 0), -1);
        due("14 the VOTE is behind all", x.first(2, 0, 1), 3);
        due("14 CAME", x.count(2), 1);
        x.stop(1);
        due("14 not UP", x.come(0), 0);
        due("14 LOST", x.count(1), 1);
        x.link(0, 3, 0);
        due("14 cut by now", x.come(0), 0);
        due("14 LOST", x.count(1), 2);
        due("14 CAME", x.count(2), 1);
        x.link(0, 4, 0);
        x.link(0, 4, 1);
        due("14 there again", x.come(0), 1);
        due("14 what is SENT to one not UP waits", x.count(0), 2);
        x.timeout(0);
        due("14 it does", x.first(0, 1, 0) >= 0 ? 1 : 0, 1);
    }

    private static void votes() {
        AgreedLog x = new AgreedLog();
        x.timeout(0);
        x.timeout(1);
        x.come(x.first(0, 2, 0));
        x.come(x.first(1, 2, 0));
        due("ASK: VOTED once", x.store(2, 2), 0);
        due("ASK: granted", x.message(x.first(2, 0, 1), 4), 1);
        due("ASK: not granted", x.message(x.first(2, 1, 1), 4), 0);
        x.come(x.first(2, 1, 1));
        due("VOTE 0 is none", x.store(1, 11), 2);
        x.come(x.first(0, 1, 0));
        due("ASK: a candidate has voted", x.store(1, 2), 1);
        due("ASK: of the same TERM it stays one", x.store(1, 3), 1);
        x.timeout(0);
        x.come(x.first(2, 0, 1));
        due("VOTE of an older TERM", x.store(0, 11), 1);
        due("TERM", x.store(0, 1), 2);
        x.come(x.first(1, 0, 0));
        due("ASK of a lesser TERM", x.message(x.count(0) - 1, 4), 0);
        due("VOTE has the TERM here", x.message(x.count(0) - 1, 3), 2);
        x.come(x.count(0) - 1);
        due("a greater TERM: follower", x.store(1, 3), 0);
        due("a greater TERM", x.store(1, 1), 2);
        due("VOTED none", x.store(1, 2), -1);
        due("votes gone", x.store(1, 11), 0);
        // A log that lags is not granted; one VOTED again for is.
        x = elected(0);
        x.link(0, 1, 0);
        x.propose(0, 1, 0, 1);
        x.settle(200);
        x.timeout(1);
        x.come(x.first(1, 2, 0));
        due("ASK: LAST here is more", x.message(x.count(0) - 1, 4), 0);
        due("not VOTED", x.store(2, 2), -1);
        due("but TERM", x.store(2, 1), 2);
        x = new AgreedLog();
        x.timeout(0);
        x.twice(0);
        x.come(0);
        x.come(3);
        due("ASK twice: granted twice", x.message(4, 4), 1);
    }

    private static void takes() {
        AgreedLog x = elected(0);
        x.link(0, 4, 0);
        for (int i = 1; i <= 5; i++) {
            x.propose(0, 1, 0, i);
        }
        x.settle(200);
        due("TAKE: lags", x.store(4, 4), 1);
        x.link(0, 4, 1);
        due("NEXT", x.follows(0, 4, 0), 2);
        x.beat(0);
        int i = x.first(0, 4, 2);
        due("TAKE: BEFORE", x.message(i, 4), 1);
        due("TAKE: three", x.message(i, 6), 3);
        due("TAKE: AGREED", x.message(i, 7), 6);
        x.come(i);
        due("TAKE: three came", x.store(4, 4), 4);
        due("TAKE: AGREED no more than told", x.store(4, 8), 4);
        due("TAKE: done", x.cell(4, 0), 3);
        i = x.first(4, 0, 3);
        due("TOOK 1", x.message(i, 4), 1);
        due("TOOK place", x.message(i, 5), 4);
        x.come(i);
        due("HAS", x.follows(0, 4, 1), 4);
        due("NEXT", x.follows(0, 4, 0), 5);
        i = x.first(0, 4, 2);
        due("it SENDS on", x.message(i, 6), 2);
        x.come(i);
        due("all", x.store(4, 8), 6);
        x.come(x.first(4, 0, 3));
        due("no more is SENT", x.first(0, 4, 2), -1);
        // BEFORE above LAST.
        x = elected(0);
        x.stop(4);
        x.propose(0, 1, 0, 1);
        x.settle(200);
        x.begin(31);
        x.link(0, 4, 0);
        x.timeout(0);
        x.settle(200);
        x.propose(0, 1, 0, 1);
        x.settle(200);
        x.link(0, 4, 1);
        x.timeout(1);
        x.settle(8);
        due("elected", x.leader(), 1);
        x.settle(4);
        i = x.first(4, 1, 3);
        due("TOOK 0", x.message(i, 4), 0);
        due("TOOK 0, LAST", x.message(i, 5), 0);
        x.come(i);
        due("NEXT", x.follows(1, 4, 0), 1);
        due("it SENDS again", x.message(x.first(1, 4, 2), 4), 0);
        x.settle(200);
        due("all alike", x.alike(1, 4), 3);
    }

    private static void takesBack() {
        AgreedLog x = elected(0);
        x.beat(0);
        x.settle(200);
        Check.script(x, "cut 0 1; cut 0 2; cut 0 3; cut 0 4; set 0 0 5; set 0 0 6; change 0 7;");
        due("MEMBERS by one not AGREED", x.store(0, 10), 7);
        x.timeout(1);
        x.settle(200);
        due("another leader", x.leader(), 1);
        Check.script(x, "set 1 0 9; settle 60; join 0 1;");
        x.beat(1);
        int i = x.first(1, 0, 2);
        due("BEFORE", x.message(i, 4), 1);
        x.come(i);
        due("another TERM goes", x.entry(0, 2, 0), 2);
        due("all behind go", x.store(0, 4), 3);
        due("MEMBERS are as they were", x.store(0, 10), 0);
        due("AGREED", x.store(0, 8), 3);
        due("done", x.cell(0, 0), 9);
        due("follower", x.store(0, 3), 0);
        // A TAKE that is older takes nothing back.
        x = elected(0);
        x.propose(0, 1, 0, 1);
        x.twice(0);
        x.propose(0, 1, 0, 2);
        x.settle(200);
        due("nothing goes", x.store(1, 4), 3);
        // The TERM at BEFORE isn't that told.
        x = elected(0);
        Check.script(x, "cut 0 1; cut 0 2; cut 0 3; cut 0 4; set 0 0 5; timeout 1; settle 99; set 1 0 7; settle 99;");
        Check.script(x, "cut 1 2; cut 1 3; cut 1 4; timeout 2; settle 99; join 0 2; beat 2;");
        i = x.first(2, 0, 2);
        due("NEXT was LAST", x.message(i, 4), 3);
        x.come(i);
        i = x.first(0, 2, 3);
        due("BEFORE above LAST", x.message(i, 5), 2);
        x.come(i);
        i = x.first(2, 0, 2);
        due("BEFORE", x.message(i, 4), 2);
        due("its TERM", x.message(i, 5), 2);
        x.come(i);
        i = x.first(0, 2, 3);
        due("TOOK 0", x.message(i, 4), 0);
        due("BEFORE less 1", x.message(i, 5), 1);
        x.come(i);
        x.settle(200);
        due("alike", x.alike(0, 2), 4);
        // Of a lesser TERM: TOOK 0, LAST.
        x = elected(0);
        x.beat(0);
        x.timeout(1);
        x.come(x.first(0, 1, 2));
        i = x.first(1, 0, 3);
        due("TOOK 0", x.message(i, 4), 0);
        due("LAST", x.message(i, 5), 1);
        due("TERM here", x.message(i, 3), 2);
        due("a candidate stays", x.store(1, 3), 1);
        x.come(i);
        due("the leader isn't any more", x.store(0, 3), 0);
    }

    private static void installs() {
        AgreedLog x = elected(0);
        x.stop(4);
        Check.script(x, "set 0 0 5; set 0 1 6; add 0 1 1; settle 99; compact 0; set 0 2 8; settle 99;");
        due("INSTALL", x.first(0, 4, 4), -1);
        x.start(4);
        x.beat(0);
        int i = x.first(0, 4, 4);
        due("INSTALL place", x.message(i, 4), 4);
        due("INSTALL TERM", x.message(i, 5), 1);
        due("INSTALL no entries", x.message(i, 6), 0);
        due("INSTALL no AGREED", x.message(i, 7), 0);
        due("INSTALL ROUND", x.message(i, 9), 0);
        x.come(i);
        due("SNAPSHOT", x.store(4, 6), 4);
        due("its TERM", x.store(4, 7), 1);
        due("LAST", x.store(4, 4), 4);
        due("AGREED", x.store(4, 8), 4);
        due("CELLS", x.cell(4, 1), 7);
        i = x.first(4, 0, 5);
        due("INSTALLED", x.message(i, 4), 4);
        due("INSTALLED 5", x.message(i, 5), 0);
        x.come(i);
        due("HAS", x.follows(0, 4, 1), 4);
        due("NEXT", x.follows(0, 4, 0), 5);
        i = x.first(0, 4, 2);
        due("it SENDS on", x.message(i, 4), 4);
        due("BEFORE's TERM by the SNAPSHOT", x.message(i, 5), 1);
        x.settle(200);
        due("all", x.cell(4, 2), 8);
        x.stop(4);
        due("a STOP goes back to it", x.cell(4, 2), 0);
        due("a STOP goes back to it", x.cell(4, 1), 7);
        // Of a lesser TERM.
        x.start(4);
        x = elected(0);
        x.stop(4);
        Check.script(x, "set 0 0 5; settle 99; compact 0; start 4; beat 0; timeout 4;");
        i = x.first(0, 4, 4);
        x.come(i);
        i = x.first(4, 0, 5);
        due("INSTALLED 0", x.message(i, 4), 0);
        due("TERM here", x.message(i, 3), 2);
        due("candidate still", x.store(4, 3), 1);
        due("no SNAPSHOT", x.store(4, 6), 0);
    }

    private static void installsKeep() {
        AgreedLog x = elected(0);
        // 4 takes entries without their being AGREED there, then the leader's SNAPSHOT lies below its LAST.
        Check.script(x, "cut 0 1; cut 0 2; set 0 0 5; set 0 1 6; settle 99; stop 4; start 4;");
        due("LAST", x.store(4, 4), 3);
        due("AGREED", x.store(4, 8), 0);
        due("the leader's", x.store(0, 8), 3);
        Check.script(x, "compact 0; cut 0 4; set 0 2 7; join 0 4; settle 99; stop 0; start 0; timeout 0; settle 1;");
        x = new AgreedLog();
        x.begin(3);
        Check.script(x, "timeout 0; settle 99; set 0 0 5; settle 99; set 0 1 6; come 0; stop 1; start 1;");
        due("LAST", x.store(1, 4), 3);
        due("AGREED anew", x.store(1, 8), 0);
        Check.script(x, "settle 9; compact 0;");
        due("a message that waits is LOST by nobody", x.store(0, 6) >= 2 ? 1 : 0, 1);
        // INSTALL at a place where an entry of that TERM lies: those behind stay.
        x = new AgreedLog();
        x.begin(7);
        Check.script(x, "timeout 0; settle 99; stop 2; set 0 0 5; settle 99; compact 0; start 2; beat 0;");
        int i = x.first(0, 2, 4);
        due("INSTALL waits", i >= 0 ? 1 : 0, 1);
        x.twice(i);
        Check.script(x, "set 0 1 6; settle 99;");
        due("SNAPSHOT", x.store(2, 6), 2);
        due("what came behind stays", x.store(2, 4), 3);
        due("AGREED isn't less", x.store(2, 8) >= 2 ? 1 : 0, 1);
    }

    private static void would() {
        AgreedLog x = elected(0);
        x.careful(1);
        x.propose(0, 1, 0, 5);
        x.link(0, 4, 0);
        x.settle(200);
        due("lags", x.store(4, 4), 1);
        due("4 asks", x.timeout(4), 1);
        x.come(x.first(4, 1, 7));
        int i = x.first(1, 4, 8);
        due("WOULD 0: the log lags", x.message(i, 4), 0);
        due("with the TERM here", x.message(i, 3), 1);
        x.come(i);
        due("nothing comes of it", x.store(4, 3), 3);
        due("own vote", x.store(4, 11), 16);
        x.lose(x.first(4, 2, 7));
        x.lose(x.first(4, 3, 7));
        x.timeout(3);
        x.come(x.first(3, 0, 7));
        i = x.first(0, 3, 8);
        due("WOULD 0: the leader", x.message(i, 4), 0);
        x.come(x.first(3, 1, 7));
        i = x.first(1, 3, 8);
        due("WOULD 1", x.message(i, 4), 1);
        due("WOULD 1: its TERM", x.message(i, 3), 2);
        due("WOULD 5", x.message(i, 5), 0);
        // WOULD 0 of a greater TERM.
        x = new AgreedLog();
        x.timeout(0);
        x.come(0);
        x.careful(1);
        x.timeout(2);
        x.come(x.first(2, 1, 7));
        i = x.first(1, 2, 8);
        due("WOULD 0: TERM isn't above", x.message(i, 4), 0);
        due("the TERM there", x.message(i, 3), 1);
        due("TERM", x.store(2, 1), 0);
        x.come(i);
        due("TERM is that", x.store(2, 1), 1);
        due("ROLE 0", x.store(2, 3), 0);
        due("VOTED none", x.store(2, 2), -1);
        due("votes gone", x.store(2, 11), 0);
        // A TAKE ends asking.
        x = elected(0);
        x.careful(1);
        x.timeout(1);
        x.beat(0);
        x.come(x.first(0, 1, 2));
        due("TAKE: ROLE 0", x.store(1, 3), 0);
        x.settle(200);
        due("WOULD to a follower", x.store(1, 3), 0);
        due("the leader stays", x.leader(), 0);
    }

    private static void lose() {
        AgreedLog x = new AgreedLog();
        due("15 none", x.lose(0), -2);
        x.timeout(0);
        for (int wrong : new int[] {-1, 4, LOW, HIGH}) {
            due("15 none such", x.lose(wrong), -2);
        }
        due("15 how many wait", x.lose(1), 3);
        due("15 that one", x.message(1, 1), 3);
        due("15 LOST", x.count(1), 1);
        due("15 did not come", x.count(2), 0);
        due("15 all", x.lose(0) + x.lose(0) + x.lose(0), 3);
    }

    private static void twice() {
        AgreedLog x = new AgreedLog();
        due("16 none", x.twice(0), -2);
        x.timeout(0);
        for (int wrong : new int[] {-1, 4, LOW, HIGH}) {
            due("16 none such", x.twice(wrong), -2);
        }
        due("16 how many wait", x.twice(2), 5);
        for (int what = 0; what < 10; what++) {
            due("16 the same", x.message(4, what), x.message(2, what));
        }
        for (int i = 6; i <= 60; i++) {
            due("16 more", x.twice(0), i);
        }
        due("16 60 wait", x.twice(0), -4);
        due("16 -2 ahead of -4", x.twice(60), -2);
        due("16 nothing LOST", x.count(1), 0);
        x.timeout(1);
        due("16 SENT while 60 wait", x.count(1), 4);
        due("16 60 wait", x.count(0), 60);
        // The entries go with it.
        x = elected(0);
        x.propose(0, 1, 0, 5);
        x.twice(0);
        x.lose(0);
        x.come(3);
        due("16 entries", x.entry(1, 2, 3), 5);
    }

    private static void settle() {
        AgreedLog x = new AgreedLog();
        for (int wrong : new int[] {0, -1, 201, LOW, HIGH}) {
            due("17 n", x.settle(wrong), -3);
        }
        due("17 none wait", x.settle(1), -5);
        due("17 none wait", x.settle(200), -5);
        x.timeout(0);
        due("17 two", x.settle(2), 2);
        due("17 the first first", x.store(2, 1), 1);
        due("17 not the third", x.store(3, 1), 0);
        due("17 as many as there are", x.settle(200), 14);
        x.beat(0);
        x.stop(1);
        due("17 LOST ones, too", x.settle(4), 4);
        due("17 LOST", x.count(1), 1);
        due("17 one less answers", x.count(0), 3);
    }
}
