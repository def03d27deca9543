/** What a message does as it COMES (promise 14), and what stores do of themselves then: each rule at its bounds. */
public final class BoundsComesTest {
    private static final int NONE = AgreedLog.NONE;

    private BoundsComesTest() { }

    private static void due(String what, long got, long want) {
        Bounds.due(what, got, want);
    }

    private static void come(AgreedLog x, int from, int to, int kind) {
        due("it COMES", Bounds.come(x, from, to, kind), 1);
    }

    /** What the latest message tells: KIND, TERM, 4 and 5. */
    private static void latest(AgreedLog x, int kind, int term, int four, int five) {
        due("KIND", Bounds.latest(x, 2), kind);
        due("TERM", Bounds.latest(x, 3), term);
        due("4", Bounds.latest(x, 4), four);
        due("5", Bounds.latest(x, 5), five);
    }

    private static void store(String what, AgreedLog x, int s, int fact, int want) {
        due(what, x.store(s, fact), want);
    }

    public static void main(String[] args) {
        Bounds.run(BoundsComesTest.class, 15, 14);
    }

    // ---- a TERM above

    static void p14_aTermAboveMakesItAFollowerThatHasntVoted() {
        AgreedLog x = Bounds.led(31, "timeout 1;");
        come(x, 1, 0, 0);
        store("TERM", x, 0, 1, 2);
        store("ROLE", x, 0, 3, 0);
        store("VOTED who asks", x, 0, 2, 1);
        // A VOTE that isn't granted and a TOOK tell it as well.
        x = Bounds.after(31, "timeout 0; timeout 1; timeout 1;");
        come(x, 0, 1, 0);
        latest(x, 1, 2, 0, 0);
        come(x, 1, 0, 1);
        store("TERM", x, 0, 1, 2);
        store("ROLE", x, 0, 3, 0);
        store("VOTED none", x, 0, 2, NONE);
        store("votes are gone", x, 0, 11, 0);
    }

    static void p14_aTermLikeItsOwnLeavesRoleAndVote() {
        AgreedLog x = Bounds.after(31, "timeout 0; timeout 1;");
        come(x, 0, 1, 0);
        store("TERM", x, 1, 1, 1);
        store("candidate", x, 1, 3, 1);
        store("VOTED", x, 1, 2, 1);
        latest(x, 1, 1, 0, 0);
    }

    static void p14_mayAndWouldWithATermAboveDont() {
        AgreedLog x = Bounds.led(31, "careful 1; timeout 1;");
        come(x, 1, 0, 7);
        store("TERM", x, 0, 1, 1);
        store("leader", x, 0, 3, 2);
        come(x, 1, 2, 7);
        store("TERM", x, 2, 1, 1);
        store("VOTED", x, 2, 2, 0);
        latest(x, 8, 2, 1, 0);
        Bounds.play(x, "stop 1; start 1;");
        come(x, 2, 1, 8);
        store("WOULD to a follower", x, 1, 1, 1);
        store("ROLE", x, 1, 3, 0);
    }

    // ---- ASK

    static void p14_askOfALesserTermIsntGranted() {
        AgreedLog x = Bounds.after(31, "timeout 0; cut 1 0; cut 1 2; cut 1 3; cut 1 4; timeout 1; timeout 1; join 1 0;");
        come(x, 0, 1, 0);
        latest(x, 1, 2, 0, 0);
        store("VOTED", x, 1, 2, 1);
        store("candidate", x, 1, 3, 1);
    }

    static void p14_askOfThisTermIsGrantedIfVotedIsNone() {
        AgreedLog x = Bounds.led(31, "cut 0 1; set 0 0 1; settle 99; join 0 1; timeout 1; timeout 3;");
        come(x, 1, 4, 0);
        latest(x, 1, 2, 0, 0);
        store("TERM", x, 4, 1, 2);
        store("VOTED none", x, 4, 2, NONE);
        come(x, 3, 4, 0);
        latest(x, 1, 2, 1, 0);
        store("VOTED", x, 4, 2, 3);
    }

    static void p14_askOfThisTermIsGrantedAgainToWhomItVotedFor_toNoOther() {
        AgreedLog x = Bounds.after(31, "timeout 0; twice 0; timeout 1;");
        come(x, 0, 2, 0);
        latest(x, 1, 1, 1, 0);
        come(x, 1, 2, 0);
        latest(x, 1, 1, 0, 0);
        store("VOTED", x, 2, 2, 0);
        x = Bounds.after(31, "timeout 0; twice 0;");
        come(x, 0, 1, 0);
        latest(x, 1, 1, 1, 0);
        come(x, 0, 1, 0);
        latest(x, 1, 1, 1, 0);
    }

    static void p14_askWithLastOneLess_alike_oneMore() {
        AgreedLog x = Bounds.led(31, "cut 0 4; set 0 0 1; settle 99; join 0 4; timeout 4; timeout 1;");
        come(x, 4, 2, 0);
        latest(x, 1, 2, 0, 0);
        come(x, 1, 2, 0);
        latest(x, 1, 2, 1, 0);
        x = Bounds.led(31, "cut 0 4; set 0 0 1; settle 99; join 0 4; timeout 1;");
        come(x, 1, 4, 0);
        latest(x, 1, 2, 1, 0);
    }

    static void p14_askWithAGreaterTermAtLastIsGrantedThoughLastIsLess() {
        AgreedLog x = Bounds.led(31, "cut 0 1; cut 0 2; cut 0 3; cut 0 4; set 0 0 1; set 0 0 1; set 0 0 1;",
            "timeout 1; settle 99; join 0 2; timeout 2;");
        store("LAST of 0", x, 0, 4, 4);
        store("LAST of 2", x, 2, 4, 2);
        come(x, 2, 0, 0);
        latest(x, 1, 3, 1, 0);
    }

    static void p14_askWithALesserTermAtLastIsntGrantedThoughLastIsMore() {
        AgreedLog x = Bounds.led(31, "cut 0 1; cut 0 2; cut 0 3; cut 0 4; set 0 0 1; set 0 0 1; set 0 0 1;",
            "timeout 1; settle 99; stop 0; start 0; timeout 0; join 0 3; timeout 0;");
        store("TERM", x, 0, 1, 3);
        come(x, 0, 3, 0);
        latest(x, 1, 3, 0, 0);
        store("VOTED none", x, 3, 2, NONE);
    }

    static void p14_askToALogThatIsASnapshotAlone() {
        AgreedLog x = Bounds.led(31, "set 0 0 1; settle 99; beat 0; settle 99; compact 2; cut 0 1;",
            "set 0 0 1; lose 0; lose 0; lose 0; join 0 1; timeout 1;");
        due("SNAPSHOT alone", x.entry(2, 2, 0), -1000);
        come(x, 1, 2, 0);
        latest(x, 1, 2, 1, 0);
        x = Bounds.led(31, "cut 0 1; set 0 0 1; settle 99; beat 0; settle 99; compact 2; timeout 1;");
        come(x, 1, 2, 0);
        latest(x, 1, 2, 0, 0);
    }

    // ---- VOTE

    static void p14_voteThatIsntGrantedCountsNothing() {
        AgreedLog x = Bounds.after(31, "timeout 0; timeout 1;");
        come(x, 0, 1, 0);
        come(x, 1, 0, 1);
        store("votes", x, 0, 11, 1);
    }

    static void p14_voteOfAnOlderTermCountsNothing() {
        AgreedLog x = Bounds.after(3, "timeout 0; come 0; timeout 0;");
        store("TERM", x, 0, 1, 2);
        come(x, 1, 0, 1);
        store("votes", x, 0, 11, 1);
        store("candidate", x, 0, 3, 1);
    }

    static void p14_voteToWhoIsntACandidateCountsNothing() {
        AgreedLog x = Bounds.after(3, "timeout 0; come 0; stop 0; start 0;");
        come(x, 1, 0, 1);
        store("a follower", x, 0, 3, 0);
        store("votes", x, 0, 11, 0);
        x = Bounds.after(3, "timeout 0; come 0; careful 1; timeout 0;");
        come(x, 1, 0, 1);
        store("one that asks first", x, 0, 3, 3);
        store("votes", x, 0, 11, 1);
        x = Bounds.after(31, "timeout 0; settle 6;");
        store("leader by three", x, 0, 3, 2);
        int last = x.store(0, 4);
        come(x, 3, 0, 1);
        store("the leader: no entry more", x, 0, 4, last);
        store("no votes", x, 0, 11, 0);
    }

    static void p14_voteTwiceCountsOnce() {
        AgreedLog x = Bounds.after(31, "timeout 0; come 0; twice 3; come 3; come 3;");
        store("votes", x, 0, 11, 3);
        store("candidate", x, 0, 3, 1);
    }

    // ---- TAKE

    static void p14_takeOfALesserTerm_took0AndLast() {
        AgreedLog x = Bounds.led(31, "beat 0; timeout 1;");
        come(x, 0, 1, 2);
        latest(x, 3, 2, 0, 1);
        store("candidate", x, 1, 3, 1);
        store("votes", x, 1, 11, 2);
        come(x, 1, 0, 3);
        store("its TERM is above: ROLE 0", x, 0, 3, 0);
        store("TERM", x, 0, 1, 2);
    }

    static void p14_takeOfThisTermEndsACandidacy() {
        AgreedLog x = Bounds.after(31, "timeout 0; timeout 4; come 0; come 0; ");
        come(x, 1, 0, 1);
        come(x, 2, 0, 1);
        store("leader", x, 0, 3, 2);
        store("candidate", x, 4, 3, 1);
        come(x, 0, 4, 2);
        store("ROLE", x, 4, 3, 0);
        store("votes are gone", x, 4, 11, 0);
        store("VOTED stays", x, 4, 2, 4);
        store("LAST", x, 4, 4, 1);
    }

    static void p14_takeOfThisTermEndsAskingFirst() {
        AgreedLog x = Bounds.led(31, "careful 1; timeout 4; beat 0;");
        come(x, 0, 4, 2);
        store("ROLE", x, 4, 3, 0);
        store("votes are gone", x, 4, 11, 0);
    }

    static void p14_takeWithBeforeAtLast_andOneAboveIt() {
        AgreedLog x = Bounds.led(7, "set 0 0 1;");
        due("BEFORE", x.message(1, 4), 1);
        come(x, 0, 2, 2);
        latest(x, 3, 1, 1, 2);
        x = Bounds.led(7, "cut 0 2; set 0 0 1; settle 99; join 0 2; timeout 1; settle 4;");
        store("leader", x, 1, 3, 2);
        due("BEFORE", x.message(x.first(1, 2, 2), 4), 2);
        store("LAST", x, 2, 4, 1);
        come(x, 1, 2, 2);
        latest(x, 3, 2, 0, 1);
        store("nothing came", x, 2, 4, 1);
        store("nothing AGREED", x, 2, 8, 0);
    }

    static void p14_takeWithBefore0FitsAlways() {
        AgreedLog x = Bounds.after(3, "timeout 0; settle 2;");
        due("BEFORE", x.message(0, 4), 0);
        due("its TERM", x.message(0, 5), 0);
        come(x, 0, 1, 2);
        latest(x, 3, 1, 1, 1);
    }

    static void p14_takeWithAnotherTermAtBefore_took0AndBeforeLess1() {
        AgreedLog x = Bounds.led(7, "cut 0 1; cut 0 2; set 0 0 1; set 0 0 2; timeout 1; settle 99; timeout 2; settle 99;",
            "join 0 2; beat 2;");
        due("BEFORE", x.message(0, 4), 2);
        due("its TERM", x.message(0, 5), 2);
        store("LAST", x, 0, 4, 3);
        come(x, 2, 0, 2);
        latest(x, 3, 3, 0, 1);
        store("nothing goes", x, 0, 4, 3);
        come(x, 0, 2, 3);
        due("one further back", x.follows(2, 0, 0), 2);
        latest(x, 2, 3, 1, 1);
        come(x, 2, 0, 2);
        due("overwritten", x.entry(0, 2, 0), 2);
        due("overwritten", x.entry(0, 3, 0), 3);
        store("LAST", x, 0, 4, 3);
    }

    static void p14_anEntryOfAnotherTermGoesWithAllBehind() {
        AgreedLog x = Bounds.led(7, "cut 0 1; cut 0 2; set 0 0 1; set 0 0 2; set 0 0 3; timeout 1; settle 99; join 0 1; beat 1;");
        store("LAST", x, 0, 4, 4);
        come(x, 1, 0, 2);
        store("LAST", x, 0, 4, 2);
        due("the other one", x.entry(0, 2, 0), 2);
        due("gone", x.entry(0, 3, 0), -1000);
    }

    static void p14_anOlderTakeTakesNothingAway() {
        AgreedLog x = Bounds.led(3, "set 0 0 1; twice 0; come 0; come 1; set 0 0 2; set 0 0 3;");
        due("the older one", x.message(0, 6), 1);
        x.come(2);
        store("LAST", x, 1, 4, 4);
        store("AGREED", x, 1, 8, 2);
        x.come(0);
        latest(x, 3, 1, 1, 2);
        store("LAST stays", x, 1, 4, 4);
        store("AGREED stays", x, 1, 8, 2);
    }

    /** The older TAKE tells entries of two TERMS, and more of the later one stand behind them by now. */
    static void p14_anOlderTakeOfSeveralTermsTakesNothingAway() {
        AgreedLog x = Bounds.after(7, "cut 0 1; timeout 0; settle 99; set 0 0 1; settle 99; join 0 1; stop 0; start 0; timeout 0;");
        come(x, 0, 2, 0);
        come(x, 2, 0, 1);
        Bounds.loseAll(x);
        x.propose(0, 1, 0, 2);
        x.propose(0, 1, 0, 3);
        Bounds.loseAll(x);
        x.beat(0);
        Bounds.loseAllBut(x, 0, 1, 2);
        come(x, 0, 1, 2);
        come(x, 1, 0, 3);
        due("BEFORE", x.message(0, 4), 0);
        due("three", x.message(0, 6), 3);
        x.twice(0);
        x.come(0);
        come(x, 1, 0, 3);
        due("two more", Bounds.latest(x, 6), 2);
        x.come(x.count(0) - 1);
        store("LAST", x, 1, 4, 5);
        due("its TERM", x.store(1, 5), 2);
        due("the older one", x.message(0, 4), 0);
        come(x, 0, 1, 2);
        latest(x, 3, 2, 1, 3);
        store("LAST stays", x, 1, 4, 5);
        due("TERM at 2", x.entry(1, 2, 0), 1);
        due("TERM at 3", x.entry(1, 3, 0), 2);
    }

    /** The TERM at BEFORE is far above the SNAPSHOT's place here, and it isn't looked at. */
    static void p14_takeWithBeforeBelowTheSnapshot_whateverTheTermThere() {
        AgreedLog x = Bounds.after(7);
        Bounds.raiseTerm(x, 0, 8);
        Bounds.play(x, "timeout 0; settle 99; set 0 0 1;");
        x.twice(x.first(0, 1, 2));
        Bounds.play(x, "come 0; come 0; come 1; come 1; beat 0;");
        x.come(x.count(0) - 2);
        store("AGREED", x, 1, 8, 2);
        due("both go", x.compact(1), 2);
        int old = x.first(0, 1, 2);
        due("BEFORE", x.message(old, 4), 1);
        due("its TERM", x.message(old, 5), 9);
        x.come(old);
        latest(x, 3, 9, 1, 2);
    }

    /** The TERM at BEFORE is below the SNAPSHOT's place here, but it is another one than there. */
    static void p14_takeWithAnotherTermAtBeforeAboveTheSnapshot_took0() {
        AgreedLog x = Bounds.led(31, "set 0 0 1; settle 99; set 0 0 2; settle 99; beat 0; settle 99; compact 1; set 0 0 3;");
        store("SNAPSHOT", x, 1, 6, 3);
        Bounds.loseAll(x);
        elect(x, 1, 2);
        Bounds.play(x, "stop 0; start 0;");
        elect(x, 0, 3);
        x.beat(0);
        due("BEFORE", x.message(0, 4), 4);
        due("its TERM", x.message(0, 5), 1);
        due("TERM here", x.entry(1, 4, 0), 2);
        come(x, 0, 1, 2);
        latest(x, 3, 3, 0, 3);
        due("it stays", x.entry(1, 4, 0), 2);
    }

    /** Elected in that TERM by 3 and 4 alone; what it SENDS then is lost. */
    private static void elect(AgreedLog x, int s, int term) {
        while (x.store(s, 1) < term) {
            Bounds.loseAll(x);
            x.timeout(s);
        }
        for (int t = 3; t <= 4; t++) {
            come(x, s, t, 0);
            come(x, t, s, 1);
        }
        due("elected", x.leaders(term), 1 << s);
        Bounds.loseAll(x);
    }

    /** 1 has AGREED up to 2 and a SNAPSHOT of that, but 0 doesn't know that it has: it tells 2 again. */
    private static AgreedLog snapshotAt2() {
        AgreedLog x = Bounds.led(7, "set 0 0 1; come 0; come 0;");
        Bounds.lose(x, 1, 0, 3);
        come(x, 2, 0, 3);
        store("AGREED", x, 0, 8, 2);
        x.beat(0);
        come(x, 0, 1, 2);
        store("AGREED", x, 1, 8, 2);
        due("both go", x.compact(1), 2);
        Bounds.loseAll(x);
        return x;
    }

    static void p14_takeWithBeforeBelowTheSnapshot_onlyWhatIsBehindItComes() {
        AgreedLog x = snapshotAt2();
        x.propose(0, 1, 0, 2);
        x.propose(0, 1, 0, 3);
        due("BEFORE", x.message(2, 4), 1);
        due("three", x.message(2, 6), 3);
        x.come(2);
        latest(x, 3, 1, 1, 4);
        store("LAST", x, 1, 4, 4);
        due("at 2: in the SNAPSHOT", x.entry(1, 2, 0), -1000);
        due("at 3", x.entry(1, 3, 3), 2);
        due("at 4", x.entry(1, 4, 3), 3);
    }

    static void p14_takeUpToTheSnapshotOrLessBringsNothing() {
        AgreedLog x = snapshotAt2();
        x.beat(0);
        due("BEFORE", x.message(0, 4), 1);
        due("one", x.message(0, 6), 1);
        come(x, 0, 1, 2);
        latest(x, 3, 1, 1, 2);
        store("LAST", x, 1, 4, 2);
        store("SNAPSHOT", x, 1, 6, 2);
        store("AGREED", x, 1, 8, 2);
    }

    static void p14_takeWithBeforeAtTheSnapshotsPlace() {
        AgreedLog x = Bounds.led(7, "set 0 0 1; settle 99; beat 0; settle 99; compact 1; set 0 0 2;");
        due("BEFORE", x.message(0, 4), 2);
        come(x, 0, 1, 2);
        latest(x, 3, 1, 1, 3);
        due("behind it", x.entry(1, 3, 3), 2);
    }

    static void p14_agreedIsTheLesserOfThatToldAndWhatWasTold() {
        AgreedLog x = Bounds.led(7, "cut 0 2; times 4 { set 0 0 1; } settle 99; join 0 2; beat 0;");
        store("AGREED", x, 0, 8, 5);
        come(x, 0, 2, 2);
        store("BEFORE and three", x, 2, 8, 4);
        come(x, 2, 0, 3);
        come(x, 0, 2, 2);
        store("that told", x, 2, 8, 5);
        x = Bounds.led(7, "set 0 0 1;");
        come(x, 0, 2, 2);
        store("that told", x, 2, 8, 1);
        store("LAST", x, 2, 4, 2);
    }

    static void p14_agreedNeverGoesBack() {
        AgreedLog x = Bounds.led(7, "beat 0; set 0 0 1; ");
        int old = x.first(0, 1, 2);
        due("AGREED 1 told", x.message(old, 7), 1);
        x.twice(old);
        x.come(old);
        while (x.store(0, 8) < 2) {
            x.come(0);
        }
        Bounds.play(x, "settle 60; beat 0;");
        come(x, 0, 1, 2);
        store("AGREED", x, 1, 8, 2);
    }

    // ---- TOOK

    static void p14_tookToNoLeaderDoesNothing() {
        AgreedLog x = Bounds.led(7, "beat 0; come 0; stop 0; start 0;");
        int waits = x.count(0);
        come(x, 1, 0, 3);
        due("nothing is SENT", x.count(0), waits - 1);
        due("a follower", x.store(0, 3), 0);
    }

    static void p14_took1OfAnOlderTermToTheLeaderDoesNothing() {
        AgreedLog x = Bounds.led(7, "beat 0; come 0; lose 0; stop 0; start 0; timeout 0;");
        come(x, 0, 1, 0);
        come(x, 1, 0, 1);
        due("leader again", x.leader(), 0);
        due("HAS", x.follows(0, 1, 1), 0);
        int waits = x.count(0);
        due("TOOK of TERM 1", x.message(x.first(1, 0, 3), 3), 1);
        come(x, 1, 0, 3);
        due("HAS", x.follows(0, 1, 1), 0);
        due("nothing is SENT", x.count(0), waits - 1);
    }

    static void p14_took1_nextAtLastIsSent_nextAboveLastIsnt() {
        AgreedLog x = Bounds.led(7, "set 0 0 1; come 0; set 0 0 2;");
        int waits = x.count(0);
        come(x, 1, 0, 3);
        due("NEXT", x.follows(0, 1, 0), 3);
        store("LAST", x, 0, 4, 3);
        due("SENT", x.count(0), waits);
        latest(x, 2, 1, 2, 1);
        due("one entry", Bounds.latest(x, 6), 1);
        x = Bounds.led(7, "set 0 0 1; come 0;");
        waits = x.count(0);
        come(x, 1, 0, 3);
        due("NEXT", x.follows(0, 1, 0), 3);
        store("LAST", x, 0, 4, 2);
        due("not SENT", x.count(0), waits - 1);
    }

    static void p14_anOlderTook1LeavesHasAndNext() {
        AgreedLog x = Bounds.led(7, "beat 0; come 0; set 0 0 1;");
        due("TOOK 1 of place 1", x.message(1, 5), 1);
        x.come(2);
        due("TOOK 1 of place 2", Bounds.latest(x, 5), 2);
        x.come(x.count(0) - 1);
        due("HAS", x.follows(0, 1, 1), 2);
        x.come(1);
        due("HAS stays", x.follows(0, 1, 1), 2);
        due("NEXT stays", x.follows(0, 1, 0), 3);
    }

    static void p14_took0_nextIsTheLesser_noLessThanHasAnd1_andItIsSent() {
        AgreedLog x = Bounds.led(7, "cut 0 2; set 0 0 1; set 0 0 2; settle 99; join 0 2; timeout 1; settle 4;");
        due("NEXT", x.follows(1, 2, 0), 4);
        come(x, 1, 2, 2);
        x.twice(x.first(2, 1, 3));
        come(x, 2, 1, 3);
        due("the place and 1", x.follows(1, 2, 0), 2);
        latest(x, 2, 2, 1, 1);
        due("three entries", Bounds.latest(x, 6), 3);
        come(x, 1, 2, 2);
        x.come(x.count(0) - 1);
        due("HAS", x.follows(1, 2, 1), 4);
        due("NEXT", x.follows(1, 2, 0), 5);
        int waits = x.count(0);
        come(x, 2, 1, 3);
        due("no less than HAS and 1", x.follows(1, 2, 0), 5);
        due("SENT all the same", x.count(0), waits);
        latest(x, 2, 2, 4, 2);
    }

    static void p14_anOlderTook0LeavesNextWhereItIsLess() {
        AgreedLog x = Bounds.led(7, "cut 0 1; cut 0 2; times 4 { set 0 0 1; } timeout 1; settle 99; set 1 0 1; settle 99;",
            "set 1 0 1; settle 99; timeout 2; settle 99; join 0 2; beat 2;");
        due("NEXT", x.follows(2, 0, 0), 5);
        come(x, 2, 0, 2);
        latest(x, 3, 3, 0, 3);
        x.twice(x.count(0) - 1);
        x.come(x.count(0) - 1);
        due("NEXT", x.follows(2, 0, 0), 4);
        come(x, 2, 0, 2);
        latest(x, 3, 3, 0, 2);
        x.come(x.count(0) - 1);
        due("NEXT", x.follows(2, 0, 0), 3);
        due("the older one waits", x.message(x.first(0, 2, 3), 5), 3);
        come(x, 0, 2, 3);
        due("NEXT stays", x.follows(2, 0, 0), 3);
        latest(x, 2, 3, 2, 2);
    }

    // ---- INSTALL, INSTALLED

    private static AgreedLog installWaits() {
        return Bounds.led(7, "stop 2; set 0 0 4; settle 99; compact 0; start 2; beat 0;");
    }

    static void p14_installWithAPlaceAboveAgreed() {
        AgreedLog x = installWaits();
        store("AGREED", x, 2, 8, 0);
        come(x, 0, 2, 4);
        latest(x, 5, 1, 2, 0);
        store("LAST", x, 2, 4, 2);
        store("SNAPSHOT", x, 2, 6, 2);
        store("its TERM", x, 2, 7, 1);
        store("AGREED", x, 2, 8, 2);
        due("CELL", x.cell(2, 0), 4);
        due("none in its LOG", x.entry(2, 1, 0), -1000);
    }

    static void p14_installWithAPlaceLikeAgreedChangesNothingButAnswers() {
        AgreedLog x = installWaits();
        x.twice(x.first(0, 2, 4));
        come(x, 0, 2, 4);
        come(x, 2, 0, 5);
        x.propose(0, 1, 0, 5);
        x.come(x.count(0) - 1);
        store("LAST", x, 2, 4, 3);
        come(x, 0, 2, 4);
        latest(x, 5, 1, 2, 0);
        store("LAST stays", x, 2, 4, 3);
        store("SNAPSHOT", x, 2, 6, 2);
        due("its entry stays", x.entry(2, 3, 3), 5);
    }

    static void p14_installWithAPlaceLikeAgreedMakesNoSnapshotOfEntries() {
        AgreedLog x = Bounds.led(7, "set 0 0 4;");
        Bounds.lose(x, 0, 2, 2);
        come(x, 0, 1, 2);
        come(x, 1, 0, 3);
        x.beat(0);
        due("two go", x.compact(0), 2);
        x.beat(0);
        come(x, 0, 2, 2);
        store("AGREED by TAKE", x, 2, 8, 2);
        come(x, 0, 2, 4);
        latest(x, 5, 1, 2, 0);
        store("no SNAPSHOT", x, 2, 6, 0);
        due("its entry stays", x.entry(2, 2, 3), 4);
    }

    static void p14_installTellsCellsAndMembersOfTheSnapshot() {
        AgreedLog x = Bounds.jointInASnapshot();
        x.twice(x.first(0, 2, 4));
        Bounds.lose(x, 0, 2, 4);
        come(x, 0, 2, 4);
        store("MEMBERS, the first of both", x, 2, 9, 15);
        store("the second", x, 2, 10, 7);
        due("CELL 0", x.cell(2, 0), 5);
        due("CELL 1", x.cell(2, 1), 0);
        due("CELL 3", x.cell(2, 3), 6);
        x.stop(2);
        store("AGREED", x, 2, 8, 4);
        due("CELL 0 as in the SNAPSHOT", x.cell(2, 0), 5);
        due("CELL 3 as in the SNAPSHOT", x.cell(2, 3), 6);
    }

    static void p14_installTellsMembersThatAreOneSet_notTheFirst() {
        AgreedLog x = Bounds.jointInASnapshot();
        come(x, 0, 1, 2);
        come(x, 1, 0, 3);
        Bounds.loseAll(x);
        due("NEW goes", x.compact(0), 1);
        x.beat(0);
        come(x, 0, 2, 4);
        store("MEMBERS", x, 2, 9, 7);
        store("one set", x, 2, 10, 0);
        store("the first set is MEMBERS elsewhere", x, 4, 9, 15);
    }

    static void p14_installWithAPlaceOneAboveAgreed() {
        AgreedLog x = Bounds.led(7, "beat 0; settle 99; stop 2; start 2; cut 0 2; set 0 0 4; settle 99; compact 0; join 0 2; beat 0;");
        Bounds.come(x, 0, 2, 4);
        store("AGREED", x, 2, 8, 2);
        x = Bounds.led(7, "beat 0; settle 99; cut 0 2; set 0 0 4; settle 99; compact 0; join 0 2; beat 0;");
        store("one below", x, 2, 8, 1);
        come(x, 0, 2, 4);
        store("AGREED", x, 2, 8, 2);
        due("CELL", x.cell(2, 0), 4);
    }

    static void p14_installWhereAnEntryOfThatTermIs_thoseBehindStay() {
        AgreedLog x = Bounds.led(7, "set 0 0 4; set 0 0 5;");
        x.come(3);
        store("LAST", x, 2, 4, 3);
        Bounds.lose(x, 2, 0, 3);
        come(x, 0, 1, 2);
        come(x, 1, 0, 3);
        store("AGREED", x, 0, 8, 2);
        due("two go", x.compact(0), 2);
        x.beat(0);
        come(x, 0, 2, 4);
        store("SNAPSHOT", x, 2, 6, 2);
        store("LAST stays", x, 2, 4, 3);
        due("up to it they are gone", x.entry(2, 2, 0), -1000);
        due("behind it stays", x.entry(2, 3, 3), 5);
    }

    static void p14_installWhereAnEntryOfAnotherTermIs_allGo() {
        AgreedLog x = Bounds.after(7, "timeout 2; settle 99; cut 2 0; cut 2 1; set 2 0 9; set 2 0 8; timeout 0; settle 99;",
            "compact 0; join 2 0; beat 0;");
        store("LAST", x, 2, 4, 3);
        due("of TERM 1", x.entry(2, 2, 0), 1);
        come(x, 0, 2, 4);
        store("LAST", x, 2, 4, 2);
        store("its TERM", x, 2, 5, 2);
        due("all gone", x.entry(2, 3, 0), -1000);
        store("ROLE", x, 2, 3, 0);
    }

    /** 2 had JOINT of TERM 1 at place 2, where 0 has an entry of TERM 2 and a SNAPSHOT. */
    private static AgreedLog installOverJoint() {
        AgreedLog x = Bounds.after(7, "timeout 2; settle 99; cut 2 0; cut 2 1; change 2 3; timeout 0; settle 99;",
            "join 2 0; beat 0; compact 0; beat 0;");
        store("JOINT", x, 2, 10, 3);
        come(x, 0, 2, 4);
        come(x, 2, 0, 5);
        return x;
    }

    static void p14_installOverAnEntryThatToldMembers_theyAreThoseOfTheSnapshot() {
        AgreedLog x = installOverJoint();
        store("MEMBERS", x, 2, 9, 7);
        store("one set", x, 2, 10, 0);
        Bounds.play(x, "set 0 0 4; settle 99; beat 0; settle 99;");
        due("one more goes", x.compact(2), 1);
        store("MEMBERS", x, 2, 9, 7);
        store("one set", x, 2, 10, 0);
    }

    static void p14_takeUpToTheSnapshot_whereAnotherEntryOnceWas_takesNothingAway() {
        AgreedLog x = installOverJoint();
        x.propose(0, 1, 0, 4);
        x.come(x.count(0) - 1);
        store("LAST", x, 2, 4, 3);
        due("an older one waits", x.message(x.first(0, 2, 2), 4), 1);
        due("with the entry at the SNAPSHOT's place", x.message(x.first(0, 2, 2), 6), 1);
        come(x, 0, 2, 2);
        latest(x, 3, 2, 1, 2);
        store("LAST stays", x, 2, 4, 3);
        due("the entry behind it stays", x.entry(2, 3, 3), 4);
    }

    static void p14_installOfALesserTerm_installed0() {
        AgreedLog x = installWaits();
        x.timeout(2);
        store("TERM", x, 2, 1, 2);
        come(x, 0, 2, 4);
        latest(x, 5, 2, 0, 0);
        store("candidate", x, 2, 3, 1);
        store("no SNAPSHOT", x, 2, 6, 0);
        come(x, 2, 0, 5);
        store("its TERM is above", x, 0, 1, 2);
        store("ROLE", x, 0, 3, 0);
    }

    static void p14_installOfThisTermEndsACandidacy() {
        AgreedLog x = Bounds.after(7, "timeout 0; timeout 2;");
        come(x, 0, 1, 0);
        come(x, 1, 0, 1);
        Bounds.lose(x, 0, 2, 2);
        come(x, 0, 1, 2);
        come(x, 1, 0, 3);
        due("one", x.compact(0), 1);
        x.beat(0);
        store("candidate", x, 2, 3, 1);
        come(x, 0, 2, 4);
        store("ROLE", x, 2, 3, 0);
        store("votes are gone", x, 2, 11, 0);
        store("SNAPSHOT", x, 2, 6, 1);
    }

    static void p14_installedTellsHas_whatIsBehindIsSent() {
        AgreedLog x = installWaits();
        x.propose(0, 1, 0, 5);
        come(x, 0, 2, 4);
        int waits = x.count(0);
        come(x, 2, 0, 5);
        due("HAS", x.follows(0, 2, 1), 2);
        due("NEXT", x.follows(0, 2, 0), 3);
        due("SENT", x.count(0), waits);
        latest(x, 2, 1, 2, 1);
        x = installWaits();
        come(x, 0, 2, 4);
        waits = x.count(0);
        come(x, 2, 0, 5);
        due("NEXT is above LAST: not SENT", x.count(0), waits - 1);
    }

    static void p14_anOlderInstalledLeavesHasAndNext() {
        AgreedLog x = installWaits();
        come(x, 0, 2, 4);
        x.twice(x.first(2, 0, 5));
        come(x, 2, 0, 5);
        x.propose(0, 1, 0, 5);
        x.come(x.count(0) - 1);
        x.come(x.count(0) - 1);
        due("HAS", x.follows(0, 2, 1), 3);
        come(x, 2, 0, 5);
        due("HAS stays", x.follows(0, 2, 1), 3);
        due("NEXT stays", x.follows(0, 2, 0), 4);
    }

    static void p14_installedOfAnOlderTermToTheLeaderDoesNothing() {
        AgreedLog x = installWaits();
        come(x, 0, 2, 4);
        Bounds.play(x, "stop 0; start 0; timeout 0;");
        come(x, 0, 1, 0);
        come(x, 1, 0, 1);
        store("leader of TERM 2", x, 0, 3, 2);
        int waits = x.count(0);
        come(x, 2, 0, 5);
        due("HAS stays", x.follows(0, 2, 1), 0);
        due("NEXT stays", x.follows(0, 2, 0), 3);
        due("nothing is SENT", x.count(0), waits - 1);
    }

    static void p14_installedToNoLeaderDoesNothing() {
        AgreedLog x = installWaits();
        x.propose(0, 1, 0, 5);
        come(x, 0, 2, 4);
        for (int i = 0; i < 2; i++) {
            come(x, 0, 1, 2);
            come(x, 1, 0, 3);
        }
        store("AGREED", x, 0, 8, 3);
        Bounds.play(x, "stop 0; start 0;");
        int waits = x.count(0);
        come(x, 2, 0, 5);
        store("AGREED as in the SNAPSHOT", x, 0, 8, 2);
        due("nothing is SENT", x.count(0), waits - 1);
    }

    static void p14_installed0OfThisTermToTheLeaderDoesNothing_1IsTaken() {
        AgreedLog x = Bounds.led(31, "stop 2; set 0 0 4; settle 99; compact 0; start 2; beat 0; timeout 1;");
        come(x, 1, 2, 0);
        come(x, 0, 2, 4);
        latest(x, 5, 2, 0, 0);
        Bounds.play(x, "stop 0; start 0; timeout 0;");
        for (int t = 3; t <= 4; t++) {
            come(x, 0, t, 0);
            come(x, t, 0, 1);
        }
        store("leader of TERM 2", x, 0, 3, 2);
        int waits = x.count(0);
        come(x, 2, 0, 5);
        store("leader still", x, 0, 3, 2);
        store("of TERM 2", x, 0, 1, 2);
        due("HAS stays", x.follows(0, 2, 1), 0);
        due("NEXT stays", x.follows(0, 2, 0), 3);
        due("nothing is SENT", x.count(0), waits - 1);
        x = Bounds.after(7, "stop 2; timeout 0; settle 99; compact 0; start 2; beat 0;");
        come(x, 0, 2, 4);
        latest(x, 5, 1, 1, 0);
        come(x, 2, 0, 5);
        due("HAS", x.follows(0, 2, 1), 1);
    }

    static void p14_installedHasItsRound_andIsHeardForARead() {
        AgreedLog x = Bounds.led(7, "stop 2; set 0 0 4; settle 99; compact 0; start 2; read 0 0;");
        int i = x.first(0, 2, 4);
        due("ROUND", x.message(i, 9), 1);
        x.come(i);
        due("ROUND", Bounds.latest(x, 9), 1);
        come(x, 2, 0, 5);
        store("answered: two of three", x, 0, 12, 2);
        store("the number", x, 0, 14, 4);
    }

    // ---- NOW

    static void p14_nowOfThisTerm_itStands() {
        AgreedLog x = Bounds.led(31, "hand 0 3;");
        come(x, 0, 3, 6);
        store("candidate", x, 3, 3, 1);
        store("TERM", x, 3, 1, 2);
        due("ASKS", x.count(0), 4);
    }

    static void p14_nowOfALesserTermDoesNothing() {
        AgreedLog x = Bounds.led(31, "hand 0 3; timeout 3;");
        come(x, 0, 3, 6);
        store("TERM", x, 3, 1, 2);
        due("four ASKS", x.count(0), 4);
    }

    static void p14_nowToACandidateOrOneThatAsksFirstOfThisTerm() {
        AgreedLog x = Bounds.led(31, "hand 0 3; careful 1; timeout 3;");
        store("asks first", x, 3, 3, 3);
        come(x, 0, 3, 6);
        store("it STANDS", x, 3, 3, 1);
        store("TERM", x, 3, 1, 2);
        store("its own vote", x, 3, 11, 8);
    }

    static void p14_nowToNoMemberByItsOwnDoesNothing() {
        AgreedLog x = Bounds.led(7, "hand 0 2; change 0 3; ");
        int i = x.first(0, 2, 6);
        for (int k = 0; k < 60 && x.store(2, 9) != 3; k++) {
            x.come(x.count(0) > 1 ? 1 : 0);
        }
        due("NOW waits still", x.first(0, 2, 6), i);
        due("MEMBERS without it", x.store(2, 9), 3);
        x.come(i);
        store("a follower", x, 2, 3, 0);
        store("TERM", x, 2, 1, 1);
    }

    static void p14_nowAtTerm199And200() {
        AgreedLog x = new AgreedLog();
        Bounds.raiseTerm(x, 0, 198);
        x.timeout(0);
        x.settle(200);
        due("leader of TERM 199", x.leaders(199), 1);
        x.hand(0, 1);
        x.come(0);
        store("it STANDS", x, 1, 1, 200);
        x.settle(200);
        due("leader of TERM 200", x.leaders(200), 2);
        due("NOW", x.hand(1, 2), 1);
        x.come(0);
        store("none above", x, 2, 1, 200);
        store("a follower", x, 2, 3, 0);
        due("nothing SENT", x.count(0), 0);
    }

    static void p14_nowElectsASetOfOneAtOnce() {
        AgreedLog x = Bounds.led(3, "hand 0 1; change 0 2;");
        come(x, 0, 1, 2);
        come(x, 1, 0, 3);
        come(x, 0, 1, 2);
        store("the set of it alone", x, 1, 9, 2);
        come(x, 0, 1, 6);
        store("leader", x, 1, 3, 2);
        due("LEADERS", x.leaders(2), 2);
    }

    // ---- MAY, WOULD

    static void p14_mayWithATermLikeThatHere_would0WithTheTermHere() {
        AgreedLog x = Bounds.after(31, "timeout 4; lose 0; lose 0; lose 0; lose 0; careful 1; timeout 0;");
        due("MAY of TERM 1", x.message(3, 3), 1);
        store("TERM 1 here", x, 4, 1, 1);
        x.come(3);
        latest(x, 8, 1, 0, 0);
        x = Bounds.after(31, "careful 1; timeout 0;");
        x.come(3);
        latest(x, 8, 1, 1, 0);
        store("nothing changes there", x, 4, 1, 0);
        store("nothing changes there", x, 4, 2, NONE);
    }

    static void p14_mayToTheLeader_would0() {
        AgreedLog x = Bounds.led(31, "careful 1; timeout 1;");
        come(x, 1, 0, 7);
        latest(x, 8, 1, 0, 0);
        store("leader still", x, 0, 3, 2);
    }

    static void p14_mayToACandidateAndToOneThatAsksFirst() {
        AgreedLog x = Bounds.after(31, "careful 1; timeout 0; timeout 1;");
        come(x, 0, 1, 7);
        latest(x, 8, 1, 1, 0);
        store("asks first still", x, 1, 3, 3);
        x = Bounds.after(31, "timeout 1; timeout 0; careful 1; timeout 0;");
        come(x, 0, 1, 7);
        latest(x, 8, 2, 1, 0);
        store("candidate still", x, 1, 3, 1);
    }

    static void p14_mayWithLastOneLess_alike_oneMore() {
        AgreedLog x = Bounds.led(31, "cut 0 4; set 0 0 1; settle 99; join 0 4; careful 1; timeout 4; timeout 1;");
        come(x, 4, 2, 7);
        latest(x, 8, 1, 0, 0);
        come(x, 1, 2, 7);
        latest(x, 8, 2, 1, 0);
        come(x, 1, 4, 7);
        latest(x, 8, 2, 1, 0);
    }

    static void p14_mayWithAnotherTermAtLast() {
        AgreedLog x = Bounds.led(31, "cut 0 1; cut 0 2; cut 0 3; cut 0 4; set 0 0 1; set 0 0 1; set 0 0 1;",
            "timeout 1; settle 99; stop 0; start 0; join 0 2; timeout 0; careful 1; timeout 0; timeout 2;");
        store("LAST", x, 0, 4, 4);
        store("LAST", x, 2, 4, 2);
        come(x, 0, 2, 7);
        latest(x, 8, 2, 0, 0);
        come(x, 2, 0, 7);
        latest(x, 8, 3, 1, 0);
    }

    static void p14_would1_aMajorityStands() {
        AgreedLog x = Bounds.after(31, "careful 1; timeout 0; settle 4;");
        x.come(0);
        store("two of five", x, 0, 3, 3);
        store("votes", x, 0, 11, 3);
        x.come(0);
        store("three of five", x, 0, 3, 1);
        store("TERM", x, 0, 1, 1);
        store("votes anew", x, 0, 11, 1);
        x.come(0);
        store("one more does nothing", x, 0, 11, 1);
    }

    static void p14_would1TwiceCountsOnce() {
        AgreedLog x = Bounds.after(31, "careful 1; timeout 0; come 0; twice 3; come 3; come 3;");
        store("votes", x, 0, 11, 3);
        store("asks first", x, 0, 3, 3);
    }

    static void p14_would1WithATermThatIsnt1MoreCountsNothing() {
        AgreedLog x = Bounds.after(3, "careful 1; timeout 0; come 0; careful 0; timeout 0; careful 1; timeout 0;");
        due("WOULD of TERM 1", x.message(x.first(1, 0, 8), 3), 1);
        store("TERM 1 here", x, 0, 1, 1);
        store("asks first", x, 0, 3, 3);
        come(x, 1, 0, 8);
        store("votes", x, 0, 11, 1);
        store("asks first", x, 0, 3, 3);
    }

    static void p14_would0WithATermAbove_andWithOneLikeItsOwn() {
        AgreedLog x = new AgreedLog();
        Bounds.raiseTerm(x, 1, 5);
        Bounds.play(x, "careful 1; timeout 0;");
        come(x, 0, 1, 7);
        latest(x, 8, 5, 0, 0);
        come(x, 1, 0, 8);
        store("TERM", x, 0, 1, 5);
        store("VOTED none", x, 0, 2, NONE);
        store("ROLE", x, 0, 3, 0);
        store("votes are gone", x, 0, 11, 0);
        x = Bounds.led(31, "careful 1; timeout 1;");
        come(x, 1, 0, 7);
        latest(x, 8, 1, 0, 0);
        come(x, 0, 1, 8);
        store("TERM", x, 1, 1, 1);
        store("asks first still", x, 1, 3, 3);
        store("VOTED stays", x, 1, 2, 0);
    }

    static void p14_would0WithATermAboveToAnotherRoleDoesNothing() {
        AgreedLog x = new AgreedLog();
        Bounds.raiseTerm(x, 1, 5);
        Bounds.play(x, "careful 1; timeout 0;");
        come(x, 0, 1, 7);
        Bounds.play(x, "careful 0; timeout 0;");
        store("candidate", x, 0, 3, 1);
        come(x, 1, 0, 8);
        store("TERM", x, 0, 1, 1);
        store("candidate still", x, 0, 3, 1);
    }

    static void p14_would1InASetOfFourNeedsThree_byJointEachSet() {
        AgreedLog x = Bounds.after(15, "careful 1; timeout 0; settle 3; come 0;");
        store("two of four", x, 0, 3, 3);
        x.come(0);
        store("three of four", x, 0, 3, 1);
        x = Bounds.led(1, "change 0 6; lose 0; lose 0; stop 0; start 0; careful 1; timeout 0; settle 2; come 0;");
        store("all of one set, half of the other", x, 0, 3, 3);
        x.come(0);
        store("all of both", x, 0, 3, 1);
    }

    // ---- who becomes the leader, and SENDS

    static void p14_whoBecomesTheLeaderSendsWithNextBehindLast() {
        AgreedLog x = Bounds.led(31, "set 0 0 1; settle 99; timeout 1; settle 6;");
        store("leader", x, 1, 3, 2);
        for (int s = 0; s < 5; s++) {
            due("NEXT", x.follows(1, s, 0), 3);
            due("HAS", x.follows(1, s, 1), 0);
        }
        int i = x.first(1, 0, 2);
        due("BEFORE", x.message(i, 4), 2);
        due("its entry alone", x.message(i, 6), 1);
        due("AGREED", x.message(i, 7), x.store(1, 8));
    }

    /** 3 has AGREED to JOINT by a TAKE of three entries that ends ahead of NEW, and 1 and 2 lack NEW, too. */
    static void p14_leaderWithMembersJointAgreed_newComesAtOnce() {
        AgreedLog x = Bounds.led(7, "set 0 0 1; settle 99; change 0 15;");
        Bounds.lose(x, 0, 3, 2);
        for (int t = 1; t <= 2; t++) {
            come(x, 0, t, 2);
            come(x, t, 0, 3);
        }
        store("JOINT is AGREED by 0", x, 0, 8, 3);
        due("NEW", x.entry(0, 4, 1), 4);
        come(x, 0, 3, 2);
        store("JOINT is AGREED by 3", x, 3, 8, 3);
        store("JOINT still", x, 3, 10, 15);
        Bounds.loseAll(x);
        x.timeout(3);
        for (int t = 1; t <= 2; t++) {
            come(x, 3, t, 0);
            come(x, t, 3, 1);
        }
        store("leader", x, 3, 3, 2);
        due("its entry", x.entry(3, 4, 1), 0);
        due("NEW behind it", x.entry(3, 5, 1), 4);
        due("its set", x.entry(3, 5, 2), 15);
        store("one set", x, 3, 10, 0);
        due("an ASK, SENT to three twice", x.count(0), 7);
        due("with one entry", x.message(1, 6), 1);
        due("and with two", x.message(4, 6), 2);
    }

    static void p14_lostOnesDontChangeWhoSentThem() {
        AgreedLog x = Bounds.led(7, "set 0 0 1; lose 0; lose 0;");
        due("NEXT stays", x.follows(0, 1, 0), 2);
        due("HAS stays", x.follows(0, 1, 1), 1);
    }
}
