/** Rare turns that random runs seldom take: told by hand, and held against the model as well. */
public final class EdgesTest {
    private static Both both;

    private EdgesTest() { }

    private static void begin(String label, int members, String script) {
        both = new Both(label);
        both.call("begin", members);
        play(script);
    }

    private static void play(String script) {
        both.script(script);
        Check.due("no FAULT: " + script, both.real.fault(0), 0);
        Check.due("not refused: " + script, both.real.halted(0), 0);
        both.lookAtAll();
    }

    private static void store(String what, int s, int fact, int want) {
        Check.due(what, both.real.store(s, fact), want);
    }

    private static void come(int from, int to, int kind) {
        int i = both.ask("first", from, to, kind);
        Check.due("one waits from " + from + " to " + to + " of KIND " + kind, i >= 0 ? 1 : 0, 1);
        both.call("come", i);
        both.lookAtAll();
    }

    private static void lose(int from, int to, int kind) {
        both.call("lose", both.ask("first", from, to, kind));
    }

    private static void twice(int from, int to, int kind) {
        both.call("twice", both.ask("first", from, to, kind));
    }

    public static void main(String[] args) {
        jointSnapshotUndone();
        oldTakeOverSnapshot();
        oldTookZero();
        installEndsCandidacy();
        installedOfOldTerm();
        installedZeroOfThisTerm();
        jointAtTheEndOfTheLog();
        leaderWithoutRoom();
        nowElectsAtOnce();
        joinedSnapshotLeader();
        sixtyWait();
        readByNewMembers();
        roundsUpToTwenty();
        Check.end("EdgesTest");
    }

    /** A SNAPSHOT that lies at a JOINT entry: both its sets come back with UNDO and an IMAGE. */
    private static void jointSnapshotUndone() {
        for (int way = 0; way < 2; way++) {
            begin("joint snapshot", 3, "timeout 0; settle 99; change 0 7; come 0;");
            come(1, 0, 3);
            store("JOINT is AGREED", 0, 8, 2);
            store("NEW lies behind", 0, 4, 3);
            both.call("compact", 0);
            store("the SNAPSHOT lies at JOINT", 0, 6, 2);
            lose(0, 2, 2);
            lose(0, 2, 2);
            both.call("image", way);
            both.call("begin", 31);
            both.call(way == 0 ? "undo" : "restore", 1);
            both.lookAtAll();
            both.call("beat", 0);
            come(0, 2, 4);
            store("MEMBERS told by INSTALL", 2, 9, 3);
            store("and the second set", 2, 10, 7);
            both.call("settle", 200);
            both.lookAtAll();
        }
    }

    /** What lay at the SNAPSHOT's place ahead of it, of another TERM and with other MEMBERS, is gone for good. */
    private static void oldTakeOverSnapshot() {
        begin("old TAKE", 7, "timeout 2; settle 99; change 2 3;");
        lose(2, 0, 2);
        lose(2, 1, 2);
        store("JOINT at 2", 2, 10, 3);
        both.call("timeout", 0);
        lose(0, 2, 0);
        come(0, 1, 0);
        come(1, 0, 1);
        Check.due("leader", both.real.leader(), 0);
        come(0, 1, 2);
        come(1, 0, 3);
        both.call("compact", 0);
        store("SNAPSHOT", 0, 6, 2);
        both.call("beat", 0);
        come(0, 2, 4);
        store("INSTALL: LAST", 2, 4, 2);
        store("INSTALL: MEMBERS", 2, 9, 7);
        store("INSTALL: one set", 2, 10, 0);
        come(2, 0, 5);
        both.call("propose", 0, 1, 0, 9);
        int newer = both.real.count(0) - 1;
        Check.due("TAKE with place 3", both.real.message(newer, 4), 2);
        both.call("come", newer);
        store("LAST", 2, 4, 3);
        Check.due("the old TAKE tells place 2", both.real.message(both.real.first(0, 2, 2), 4), 1);
        come(0, 2, 2);
        store("nothing goes by the old TAKE", 2, 4, 3);
        both.call("settle", 200);
        both.call("beat", 0);
        both.call("settle", 200);
        store("AGREED", 2, 8, 3);
        both.call("compact", 2);
        store("MEMBERS by its own SNAPSHOT", 2, 9, 7);
        store("one set", 2, 10, 0);
        both.lookAtAll();
    }

    private static void oldTookZero() {
        begin("old TOOK 0", 31, "timeout 0; settle 99; cut 0 4; set 0 0 1; set 0 0 2; settle 99; join 0 4; timeout 1; settle 8;");
        Check.due("leader", both.real.leader(), 1);
        come(1, 4, 2);
        twice(4, 1, 3);
        twice(4, 1, 3);
        come(4, 1, 3);
        come(1, 4, 2);
        // Now TOOK 1 is behind the two old TOOK 0: take the new one first.
        int i = both.ask("first", 4, 1, 3);
        Check.due("an old TOOK 0 waits", both.real.message(i, 4), 0);
        for (int k = both.real.count(0) - 1; k > i; k--) {
            if (both.real.message(k, 2) == 3 && both.real.message(k, 0) == 4 && both.real.message(k, 4) == 1) {
                both.call("come", k);
                break;
            }
        }
        int has = both.real.follows(1, 4, 1);
        Check.due("HAS by TOOK 1", has >= 3 ? 1 : 0, 1);
        come(4, 1, 3);
        Check.due("HAS stays", both.real.follows(1, 4, 1), has);
        Check.due("NEXT is no less than HAS and 1", both.real.follows(1, 4, 0), has + 1);
        come(4, 1, 3);
        both.call("settle", 200);
        both.lookAtAll();
    }

    private static void installEndsCandidacy() {
        for (int careful = 0; careful < 2; careful++) {
            begin("INSTALL ends it", 31, "timeout 0; settle 99; stop 4; set 0 0 1; settle 99; compact 0; start 4;");
            // 4 stands at TERM 1's end: the leader is elected anew in the TERM in which 4 stands, too.
            play("timeout 4; stop 0; start 0; timeout 0;");
            store("candidate", 4, 1, 2);
            store("candidate", 4, 3, 1);
            store("of the same TERM", 0, 1, 2);
            lose(4, 0, 0);
            lose(4, 1, 0);
            lose(4, 2, 0);
            lose(4, 3, 0);
            come(0, 1, 0);
            come(0, 2, 0);
            come(1, 0, 1);
            come(2, 0, 1);
            Check.due("leader", both.real.leader(), 0);
            come(0, 4, 2);
            store("a TAKE ended it", 4, 3, 0);
            come(4, 0, 3);
            both.call("careful", careful);
            if (careful == 1) {
                both.call("timeout", 4);
                store("asks first", 4, 3, 3);
                lose(4, 0, 7);
            }
            come(0, 4, 4);
            store("INSTALL: ROLE 0", 4, 3, 0);
            store("votes gone", 4, 11, 0);
            store("SNAPSHOT", 4, 6, 2);
        }
        // A candidate that an INSTALL reaches without a TAKE ahead of it.
        begin("INSTALL to a candidate", 7, "timeout 0; settle 99; stop 2; set 0 0 1; settle 99; compact 0; start 2; timeout 2;");
        lose(2, 0, 0);
        lose(2, 1, 0);
        play("stop 0; start 0; timeout 0;");
        come(0, 1, 0);
        come(1, 0, 1);
        Check.due("leader", both.real.leader(), 0);
        int take = both.ask("first", 0, 2, 2);
        both.call("lose", take);
        // NEXT of 2 goes down only by what it answers, so it hears a TAKE, and stands no more.
        both.call("beat", 0);
        come(0, 2, 2);
        come(2, 0, 3);
        come(0, 2, 4);
        store("SNAPSHOT", 2, 6, 2);
    }

    private static void installedOfOldTerm() {
        begin("INSTALLED, old", 7, "timeout 0; settle 99; stop 2; set 0 0 1; settle 99; compact 0; start 2; beat 0;");
        come(0, 2, 4);
        play("stop 0; start 0; timeout 0;");
        come(0, 1, 0);
        come(1, 0, 1);
        Check.due("leader", both.real.leader(), 0);
        Check.due("HAS", both.real.follows(0, 2, 1), 0);
        int waits = both.real.count(0);
        come(2, 0, 5);
        Check.due("INSTALLED of an older TERM", both.real.follows(0, 2, 1), 0);
        Check.due("nothing is SENT", both.real.count(0), waits - 1);
        // And one of this TERM to one that isn't the leader any more.
        begin("INSTALLED, no leader", 7, "timeout 0; settle 99; stop 2; set 0 0 1; settle 99; compact 0; start 2; beat 0;");
        come(0, 2, 4);
        play("stop 0; start 0;");
        waits = both.real.count(0);
        come(2, 0, 5);
        Check.due("nothing is SENT", both.real.count(0), waits - 1);
    }

    private static void installedZeroOfThisTerm() {
        begin("INSTALLED 0", 7, "timeout 0; settle 99; stop 2; set 0 0 1; settle 99; compact 0; start 2; beat 0;");
        play("stop 0; start 0; timeout 0;");
        come(0, 2, 0);
        come(0, 2, 4);
        come(2, 0, 1);
        Check.due("leader", both.real.leader(), 0);
        Check.due("INSTALLED 0", both.real.message(both.real.first(2, 0, 5), 4), 0);
        store("of this TERM", 0, 1, both.real.message(both.real.first(2, 0, 5), 3));
        int waits = both.real.count(0);
        int next = both.real.follows(0, 2, 0);
        come(2, 0, 5);
        Check.due("nothing is SENT", both.real.count(0), waits - 1);
        Check.due("NEXT stays", both.real.follows(0, 2, 0), next);
    }

    /** JOINT is AGREED to only when LAST is 120: no entry NEW can come. */
    private static void jointAtTheEndOfTheLog() {
        begin("JOINT at 120", 3, "timeout 0; settle 99; times 48 { add 0 0 1; settle 9; add 0 1 1; settle 9; }");
        store("LAST", 0, 4, 97);
        play("cut 0 1; change 0 1;");
        store("JOINT", 0, 10, 1);
        // 0 alone is no MAJORITY of both sets; each election that it wins brings one entry.
        play("join 0 1; times 21 { stop 0; start 0; timeout 0; come 0; settle 1; cut 0 1; settle 60; join 0 1; }");
        for (int i = 0; i < 60 && both.real.store(0, 4) < 120; i++) {
            both.call("stop", 0);
            both.call("start", 0);
            both.call("timeout", 0);
            come(0, 1, 0);
            come(1, 0, 1);
            while (both.real.count(0) > 0) {
                both.call("lose", 0);
            }
        }
        both.lookAtAll();
        store("LAST", 0, 4, 120);
        store("leader", 0, 3, 2);
        store("JOINT still", 0, 10, 1);
        both.call("beat", 0);
        for (int i = 0; i < 500 && both.real.count(0) > 0; i++) {
            both.call("come", 0);
        }
        both.lookAtAll();
        store("AGREED", 0, 8, 120);
        store("no NEW", 0, 10, 1);
        store("LAST", 0, 4, 120);
        both.call("beat", 0);
        int waits = both.real.count(0);
        come(0, 1, 2);
        come(1, 0, 3);
        Check.due("nothing is SENT over and over", both.real.count(0), waits - 1);
        Check.due("9 JOINT", both.real.change(0, 3), -5);
    }

    /** A leader at LAST 120 gets no entry of its own, so that it AGREES to nothing anew. */
    private static void leaderWithoutRoom() {
        begin("LAST 120", 1, "timeout 0; times 49 { add 0 0 1; add 0 1 1; }");
        store("LAST", 0, 4, 99);
        play("times 21 { stop 0; start 0; timeout 0; }");
        store("LAST", 0, 4, 120);
        store("AGREED", 0, 8, 120);
        play("stop 0; start 0; timeout 0;");
        store("leader", 0, 3, 2);
        store("TERM", 0, 1, 23);
        store("LAST", 0, 4, 120);
        store("AGREED to nothing", 0, 8, 0);
        Check.due("7 no READ", both.call("read", 0, 0), -5);
        Check.due("6 too many", both.call("propose", 0, 1, 0, 1), -4);
        Check.due("9 too many", both.call("change", 0, 3), -4);
        Check.due("34 the last", both.real.agreed(120, 0), 22);
        Check.due("40 never", both.ask("rounds"), -1);
        both.lookAtLogs();
        both.lookOnPaper();
    }

    private static void nowElectsAtOnce() {
        begin("NOW", 3, "timeout 0; settle 99; hand 0 1; change 0 2;");
        come(0, 1, 2);
        come(1, 0, 3);
        // JOINT is AGREED: NEW (the set of 1 alone) goes out, and reaches 1 ahead of NOW.
        come(0, 1, 2);
        store("MEMBERS", 1, 9, 2);
        store("one set", 1, 10, 0);
        Check.due("NOW waits", both.ask("first", 0, 1, 6), 0);
        Check.due("41 NOW elects it", both.ask("could", 1, 1), 1);
        both.ask("could", 1, 0);
        both.ask("could", 0, 2);
        come(0, 1, 6);
        Check.due("leader", both.real.leader(), 1);
        store("TERM", 1, 1, 2);
    }

    /** A leader whose MEMBERS are JOINT by its SNAPSHOT: an entry NEW comes at once. */
    private static void joinedSnapshotLeader() {
        begin("JOINT by SNAPSHOT", 3, "timeout 0; settle 99; change 0 6; come 0; come 0; come 0; come 0;");
        both.call("beat", 0);
        for (int i = 0; i < 30 && both.real.store(1, 8) < 2; i++) {
            both.call("come", 0);
        }
        int last = both.real.store(1, 4);
        store("AGREED", 1, 8, both.real.store(1, 8));
        both.call("compact", 1);
        both.lookAtAll();
        play("stop 0; timeout 1;");
        both.call("settle", 200);
        both.lookAtAll();
        Check.due("leader", both.real.leader(), 1);
        Check.due("more entries", both.real.store(1, 4) > last ? 1 : 0, 1);
        store("one set", 1, 10, 0);
    }

    private static void sixtyWait() {
        begin("sixty", 31, "timeout 0; settle 99; times 15 { beat 0; }");
        Check.due("60 wait", both.real.count(0), 60);
        int lost = both.real.count(1);
        both.call("come", 5);
        Check.due("the answer has room", both.real.count(0), 60);
        Check.due("none LOST", both.real.count(1), lost);
        both.call("propose", 0, 1, 0, 1);
        Check.due("four LOST", both.real.count(1), lost + 4);
        Check.due("8 NOW is LOST, too", both.call("hand", 0, 1), -5);
        both.lookAtAll();
        both.lookOnPaper();
        both.call("settle", 200);
        both.lookAtAll();
    }

    /** A READ that waits needs a MAJORITY of the MEMBERS of then. */
    private static void readByNewMembers() {
        begin("READ", 7, "timeout 0; settle 99; beat 0; settle 99; read 0 0; change 0 31;");
        come(0, 1, 2);
        come(1, 0, 3);
        store("two of three, not of five", 0, 12, 1);
        store("heard", 0, 16, 3);
        come(0, 2, 2);
        come(2, 0, 3);
        store("three of five", 0, 12, 2);
        both.lookAtAll();
    }

    /** Many messages for one store whose LOG differs at many places: it takes 20 rounds, or just too many. */
    private static void roundsUpToTwenty() {
        boolean twenty = false;
        boolean more = false;
        for (int differing = 30; differing <= 34; differing++) {
            begin("rounds", 31, "timeout 4; settle 99; cut 4 0; cut 4 1; cut 4 2; cut 4 3;");
            both.script("times " + differing + " { set 4 0 1; }");
            both.script("timeout 0; settle 99; times 40 { set 0 0 1; settle 60; }");
            both.script("stop 0; start 0; timeout 0; settle 99; join 4 0; cut 0 1; cut 0 2; cut 0 3;");
            both.script("times 50 { beat 0; } times 10 { beat 0; } join 0 1; join 0 2; join 0 3;");
            int rounds = both.ask("rounds");
            twenty |= rounds == 20;
            more |= rounds == -1;
        }
        Check.due("40 twenty rounds", twenty ? 1 : 0, 1);
        Check.due("40 more than twenty", more ? 1 : 0, 1);
    }
}
