/** Promises 37 to 42: what would be. Each is also held against really doing it, behind an IMAGE. */
public final class PaperTest {
    private static final int LOW = Integer.MIN_VALUE;
    private static final int HIGH = Integer.MAX_VALUE;
    private static final int[] NO_STORES = {-1, 5, LOW, HIGH};

    private static void due(String what, long got, long want) {
        Check.due(what, got, want);
    }

    private static AgreedLog after(int members, String script) {
        AgreedLog x = new AgreedLog();
        x.begin(members);
        Check.script(x, script);
        due("no FAULT: " + script, x.fault(0), 0);
        due("not refused: " + script, x.halted(0), 0);
        return x;
    }

    public static void main(String[] args) {
        wins();
        then();
        storm();
        stormLong();
        rounds();
        roundsNone();
        could();
        couldCareful();
        fragile();
        nothingChanges();
        Check.end("PaperTest");
    }

    private static void wins() {
        AgreedLog x = new AgreedLog();
        due("37", x.wins(3), 1);
        x.timeout(0);
        due("37 the leader then", x.wins(0), -1);
        due("37 another one then", x.wins(1), 1);
        x.stop(1);
        due("37 not UP", x.wins(1), -1);
        x.stop(2);
        x.stop(3);
        due("37 no MAJORITY", x.wins(4), 0);
        due("37 candidate then", x.wins(0), 0);
        for (int wrong : NO_STORES) {
            due("37 no such", x.wins(wrong), -2);
        }
        x = after(7, "");
        due("37 no MEMBER", x.wins(3), -1);
        x = after(31, "timeout 0; settle 99; cut 0 4; set 0 0 1; settle 99;");
        due("37 a log that lags", x.wins(4), 0);
        due("37 one that doesn't", x.wins(3), 1);
        x = after(31, "careful 1;");
        due("37 CAREFUL", x.wins(2), 1);
        // A member by what still waits.
        x = after(1, "timeout 0; change 0 3;");
        due("37 it isn't the leader, by JOINT", x.wins(1), 1);
        // An unheard leader of a lesser TERM stays one.
        x = after(31, "timeout 0; settle 99; cut 0 1;cut 0 2;cut 0 3;cut 0 4; timeout 1;");
        due("37 wins among those linked", x.wins(2), 1);
    }

    private static void then() {
        AgreedLog x = new AgreedLog();
        x.timeout(0);
        due("38 leader", x.then(0, 3), 2);
        due("38 AGREED", x.then(0, 8), 1);
        due("38 LAST of another", x.then(4, 4), 1);
        due("38 VOTED", x.then(4, 2), 0);
        due("38 not now", x.store(0, 3), 1);
        for (int wrong : NO_STORES) {
            due("38 no such", x.then(wrong, 0), -2);
        }
        for (int wrong : new int[] {-1, 17, LOW, HIGH}) {
            due("38 no such what", x.then(0, wrong), -2);
        }
        x.settle(200);
        for (int s = 0; s < 5; s++) {
            for (int what = 0; what <= 16; what++) {
                due("38 nothing waits", x.then(s, what), x.store(s, what));
            }
        }
        x.read(0, 0);
        due("38 READ", x.then(0, 12), 2);
    }

    private static void storm() {
        AgreedLog x = new AgreedLog();
        due("39 none", x.storm(0), 0);
        due("39 none", x.storm(1), 0);
        x.timeout(0);
        due("39 COME", x.storm(0), 16);
        due("39 LOST", x.storm(1), 0);
        x.stop(4);
        x.link(0, 3, 0);
        // ASK to 3 and 4 are LOST; two VOTES, TAKE to 1, 2 and 4 wait (to 3: LOST at once), 4's is LOST, two TOOK.
        due("39 LOST ones, too", x.storm(0), 4 + 2 + 3 + 2);
        due("39 LOST", x.storm(1), 2 + 1 + 1);
        for (int wrong : new int[] {-1, 2, LOW, HIGH}) {
            due("39 no such", x.storm(wrong), -2);
        }
        int lost = x.count(1);
        int came = x.count(2);
        due("39 as told", x.settle(200), 11);
        due("39 as told", x.count(1) - lost, 4);
        due("39 CAME", x.count(2) - came, 11 - 3);
    }

    /** So many entries that a storm would go on for more than 300. */
    private static void stormLong() {
        AgreedLog x = after(31, "timeout 0; settle 99; cut 0 1; cut 0 2; cut 0 3; cut 0 4; times 49 { add 0 0 1; add 0 0 1;}");
        due("39 LAST", x.store(0, 4), 99);
        Check.script(x, "join 0 1; join 0 2; join 0 3; join 0 4; times 15 { beat 0; }");
        due("39 60 wait", x.count(0), 60);
        due("39 300 at most", x.storm(0), 300);
        due("38 not all came", x.then(0, 8) < 99 ? 1 : 0, 1);
        due("37 not all came, some still wait", x.wins(4), 0);
        due("17 200 at most", x.settle(200), 200);
    }

    private static void rounds() {
        AgreedLog x = after(31, "timeout 0; settle 99;");
        due("40 AGREED by the next TAKE", x.rounds(), 1);
        x.beat(0);
        x.settle(200);
        due("40 one at least", x.rounds(), 1);
        x.propose(0, 1, 0, 1);
        due("40 one that waits comes first", x.rounds(), 2);
        x.settle(200);
        due("40 AGREED by it", x.store(0, 8), 2);
        due("40 not by others", x.store(1, 8), 1);
        due("40 one", x.rounds(), 1);
        x.stop(4);
        due("40 of those that are UP", x.rounds(), 1);
        x.link(0, 3, 0);
        due("40 of those that are linked", x.rounds(), 1);
        x.stop(2);
        due("40 it has AGREED all still", x.rounds(), 1);
        x.propose(0, 1, 0, 2);
        due("40 no MAJORITY: not in 20", x.rounds(), -1);
        x.start(2);
        due("40 a MAJORITY again", x.rounds() > 0 ? 1 : 0, 1);
        x = after(1, "timeout 0; set 0 0 1;");
        due("40 alone", x.rounds(), 1);
    }

    private static void roundsNone() {
        AgreedLog x = new AgreedLog();
        due("40 there is none", x.rounds(), -1);
        x.timeout(0);
        due("40 of now", x.rounds(), -1);
        x.settle(200);
        x.timeout(1);
        due("40 it isn't the leader any more", x.rounds(), -1);
        x = after(7, "timeout 0; settle 99; change 0 6;");
        due("40 it leaves", x.rounds(), -1);
        x = after(31, "timeout 0; settle 99; cut 0 1;cut 0 2;cut 0 3;cut 0 4; timeout 1; settle 99;");
        due("40 two leaders: of the greatest TERM", x.rounds(), 1);
    }

    private static void could() {
        AgreedLog x = new AgreedLog();
        for (int n = 0; n <= 3; n++) {
            due("41 five need more", x.could(0, n), 0);
        }
        for (int wrong : NO_STORES) {
            due("41 no such", x.could(wrong, 0), -2);
            due("41 -2 ahead of -3", x.could(wrong, 4), -2);
        }
        for (int wrong : new int[] {-1, 4, LOW, HIGH}) {
            due("41 n", x.could(0, wrong), -3);
        }
        x.timeout(0);
        x.timeout(1);
        due("41 eight wait", x.could(0, 0), 0);
        x.twice(0);
        due("41 nine wait", x.could(0, 0), -5);
        due("41 -3 ahead of -5", x.could(0, 4), -3);
        due("41 -2 ahead of -5", x.could(5, 0), -2);
        x = after(31, "timeout 0; settle 6;");
        due("41 two VOTES came, two wait", x.store(0, 3), 2);
        x = after(31, "timeout 0; settle 4;");
        due("41 VOTES wait", x.could(0, 1), 0);
        due("41 two of them", x.could(0, 2), 1);
        due("41 in the same TERM no other", x.could(1, 3), 0);
        x = after(7, "timeout 0;");
        due("41 ASK, VOTE", x.could(0, 1), 0);
        due("41 ASK, VOTE", x.could(0, 2), 1);
        due("41 another one needs a TIMEOUT, ASK, VOTE", x.could(1, 2), 0);
        due("41 another one", x.could(1, 3), 1);
        x.stop(1);
        x.stop(2);
        due("41 nobody hears", x.could(0, 3), 0);
        x = after(3, "timeout 0; settle 99; hand 0 1;");
        due("41 is the leader", x.could(0, 0), 1);
        due("41 NOW, ASK, VOTE", x.could(1, 2), 0);
        due("41 NOW, ASK, VOTE", x.could(1, 3), 1);
        x = after(7, "cut 0 1; timeout 0;");
        due("41 by the other link", x.could(0, 2), 1);
        x.link(0, 2, 0);
        due("41 cut by now", x.could(0, 3), 0);
        // Another's TIMEOUT doesn't help, a message to another that makes it vote does.
        x = after(1, "");
        due("41 alone", x.could(0, 0), 0);
        due("41 alone", x.could(0, 1), 1);
        due("41 no MEMBER", x.could(1, 3), 0);
    }

    private static void couldCareful() {
        AgreedLog x = after(3, "careful 1;");
        due("41 MAY, WOULD, ASK, VOTE", x.could(0, 3), 0);
        x.timeout(0);
        due("41 MAY, WOULD, ASK, VOTE are four", x.could(0, 3), 0);
        x.come(0);
        due("41 WOULD, ASK, VOTE", x.could(0, 2), 0);
        due("41 WOULD, ASK, VOTE", x.could(0, 3), 1);
        x.begin(1);
        x.careful(1);
        due("41 alone", x.could(0, 1), 1);
        // A JOINT of which a part waits: by the TAKE that comes first it is a MEMBER.
        x = after(1, "timeout 0; change 0 3;");
        due("41 TAKE makes it a MEMBER", x.could(1, 3), 0);
    }

    private static void fragile() {
        AgreedLog x = new AgreedLog();
        due("42 three of five", x.fragile(), 3);
        x.stop(0);
        due("42 two more", x.fragile(), 2);
        x.stop(1);
        due("42 one more", x.fragile(), 1);
        x.stop(2);
        due("42 none is electable", x.fragile(), 0);
        x = after(1, "");
        due("42 alone", x.fragile(), 1);
        x.stop(0);
        due("42 none", x.fragile(), 0);
        x = after(3, "");
        due("42 one of two", x.fragile(), 1);
        x = after(31, "timeout 0; settle 99; cut 0 3; cut 0 4; set 0 0 1; settle 99;");
        due("42 three have all, one of them hears only those", x.fragile(), 2);
        x = after(31, "cut 0 1; cut 0 2; cut 0 3; cut 0 4; cut 1 2; cut 1 3; cut 1 4;");
        due("42 three linked", x.fragile(), 1);
        x.link(2, 3, 0);
        due("42 a chain", x.fragile(), 1);
        x.link(3, 4, 0);
        due("42 not enough linked", x.fragile(), 0);
    }

    private static void nothingChanges() {
        AgreedLog x = after(31, "timeout 0; settle 9; timeout 1;");
        int waits = x.count(0);
        x.wins(2);
        x.then(0, 3);
        x.storm(0);
        x.rounds();
        x.could(1, 3);
        x.fragile();
        due("on paper: messages", x.count(0), waits);
        due("on paper: CAME", x.count(2), 9);
        due("on paper: TERM", x.count(5), 2);
        due("on paper: nothing to undo", x.count(7), 2);
        due("on paper: LEADERS", x.leaders(2), 0);
        due("on paper: links", x.linked(0, 1), 1);
    }
}
