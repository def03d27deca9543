/** The boundary cases of promises 37 to 42: what would be, on paper. */
public final class Bounds37to42Test {
    private static final int NONE = AgreedLog.NONE;

    private Bounds37to42Test() { }

    private static void due(String what, long got, long want) {
        Bounds.due(what, got, want);
    }

    public static void main(String[] args) {
        Bounds.run(Bounds37to42Test.class, 37, 42);
    }

    /**
     * 0 leads 1, which has nothing: so many TAKEs wait, each the first of a row of four TAKEs and four TOOKs
     * (12 entries, three at a time, all rows in step), and ahead of them so many VOTEs that do nothing any more.
     */
    private static AgreedLog rows(int votes, int takes) {
        AgreedLog x = Bounds.after(3, "timeout 0; come 0;");
        for (int i = 0; i < votes; i++) {
            x.twice(0);
        }
        x.come(0);
        due("leader", x.leader(), 0);
        x.lose(votes);
        Bounds.play(x, "cut 0 1; times 11 { set 0 0 1; } join 0 1;");
        for (int i = 0; i < takes; i++) {
            x.beat(0);
        }
        due("so many wait", x.count(0), votes + takes);
        return x;
    }

    /** 300 messages COME, or as many as there are. */
    private static int comeByHand(AgreedLog x) {
        int came = 0;
        while (came < 300 && x.count(0) > 0) {
            x.come(0);
            came++;
        }
        return came;
    }

    // ---- 37: wins

    static void p37_noSuchStoreIsMinus2() {
        for (int wrong : Bounds.NO_STORES) {
            Bounds.answers(Bounds.after(31, "timeout 0;"), x -> x.wins(wrong), -2);
        }
    }

    static void p37_noTimeoutOfItThenIsNone() {
        Bounds.answers(Bounds.after(31, "stop 1;"), x -> x.wins(1), NONE);
        Bounds.answers(Bounds.led(31), x -> x.wins(0), NONE);
        Bounds.answers(Bounds.after(7), x -> x.wins(3), NONE);
        Bounds.answers(Bounds.after(31, "timeout 2;"), x -> x.wins(2), NONE);
        Bounds.answers(Bounds.led(7, "change 0 6;"), x -> x.wins(0), NONE);
    }

    static void p37_term199And200Then() {
        AgreedLog x = new AgreedLog();
        Bounds.raiseTerm(x, 0, 199);
        due("199", x.wins(0), 1);
        x.timeout(0);
        due("200 then by what waits", x.wins(1), NONE);
        due("leader then", x.wins(0), NONE);
        AgreedLog y = new AgreedLog();
        Bounds.raiseTerm(y, 0, 200);
        due("200", y.wins(0), NONE);
        due("another one: it hears of TERM 200 as it asks", y.wins(1), 0);
    }

    static void p37_aMajorityOrHalf() {
        due("three of five", Bounds.after(31, "stop 3; stop 4;").wins(0), 1);
        due("two of five", Bounds.after(31, "stop 2; stop 3; stop 4;").wins(0), 0);
        due("two of four", Bounds.after(15, "stop 2; stop 3;").wins(0), 0);
        due("one of one", Bounds.after(1).wins(0), 1);
        due("one of two", Bounds.after(3, "cut 0 1;").wins(0), 0);
    }

    static void p37_memberByWhatWaits() {
        AgreedLog x = Bounds.led(1, "change 0 3;");
        due("no MEMBER now", x.timeout(1), -5);
        due("one then", x.wins(1), 1);
    }

    static void p37_carefulToo() {
        due("it asks first", Bounds.after(31, "careful 1;").wins(4), 1);
        due("the leader would not", Bounds.led(31, "careful 1;").wins(4), 1);
        due("alone", Bounds.after(16, "careful 1;").wins(4), 1);
        due("no MAJORITY", Bounds.after(31, "careful 1; stop 0; stop 1; stop 2;").wins(4), 0);
    }

    static void p37_300AtMost_thenItsAsksAreLostIf60Wait() {
        AgreedLog x = rows(20, 40);
        AgreedLog y = rows(20, 40);
        comeByHand(y);
        due("some wait still", y.count(0) > 0 ? 1 : 0, 1);
        y.timeout(1);
        comeByHand(y);
        due("as by hand", x.wins(1), y.store(1, 3) == 2 ? 1 : 0);
    }

    // ---- 38: then

    static void p38_noSuchIsMinus2() {
        for (int wrong : Bounds.NO_STORES) {
            Bounds.answers(Bounds.after(31, "timeout 0;"), x -> x.then(wrong, 0), -2);
        }
        for (int wrong : new int[] {-1, 17, Bounds.LOW, Bounds.HIGH}) {
            Bounds.answers(Bounds.after(31, "timeout 0;"), x -> x.then(0, wrong), -2);
        }
        due("0", Bounds.after(31, "timeout 0;").then(4, 0), 1);
        due("16", Bounds.after(31, "timeout 0;").then(4, 16), 0);
    }

    static void p38_noneWait_asNow() {
        AgreedLog x = Bounds.led(31, "set 0 1 5; settle 99; compact 0; stop 3;");
        for (int s = 0; s < 5; s++) {
            for (int what = 0; what <= 16; what++) {
                due("what " + what, x.then(s, what), x.store(s, what));
            }
        }
    }

    static void p38_the300thComes_the301stDoesnt() {
        AgreedLog x = rows(19, 40);
        due("the 300th tells that 12 are there", x.then(0, 8), 12);
        AgreedLog y = rows(20, 40);
        due("it is the 301st", y.then(0, 8), 9);
        for (AgreedLog z : new AgreedLog[] {x, y}) {
            int[] then = new int[85];
            for (int i = 0; i < 85; i++) {
                then[i] = z.then(i / 17, i % 17);
            }
            comeByHand(z);
            for (int i = 0; i < 85; i++) {
                due("as by hand", then[i], z.store(i / 17, i % 17));
            }
        }
    }

    static void p38_nothingChanges() {
        AgreedLog x = Bounds.led(31, "read 0 0; set 0 0 1;");
        int[] before = Bounds.facts(x);
        due("READ then", x.then(0, 12), 2);
        Bounds.same("nothing has changed", before, Bounds.facts(x));
    }

    // ---- 39: storm

    static void p39_whatMinus1And2AreMinus2() {
        for (int wrong : new int[] {-1, 2, Bounds.LOW, Bounds.HIGH}) {
            Bounds.answers(Bounds.after(31, "timeout 0;"), x -> x.storm(wrong), -2);
        }
    }

    static void p39_noneWait() {
        due("0", new AgreedLog().storm(0), 0);
        due("1", new AgreedLog().storm(1), 0);
    }

    static void p39_299_300_301() {
        due("299", rows(3, 37).storm(0), 299);
        due("300", rows(4, 37).storm(0), 300);
        due("301", rows(5, 37).storm(0), 300);
        for (int votes = 3; votes <= 5; votes++) {
            AgreedLog x = rows(votes, 37);
            due("by hand", comeByHand(x), Math.min(300, votes + 296));
            due("left", x.count(0), votes == 5 ? 1 : 0);
        }
    }

    static void p39_lostOnesByThatAlone() {
        AgreedLog x = Bounds.after(31, "cut 0 4; timeout 0; stop 1; cut 0 2;");
        due("LOST by now", x.count(1), 1);
        due("come: 1, 2, 3, and VOTE of 3", x.storm(0), 4);
        due("to 1 and 2", x.storm(1), 2);
        x = Bounds.after(31, "stop 1; timeout 0;");
        due("ASKs 4, VOTEs 3, TAKEs 4, TOOKs 3", x.storm(0), 14);
        due("ASK and TAKE to 1", x.storm(1), 2);
    }

    static void p39_lostAsItIsSentToo() {
        AgreedLog x = Bounds.after(7, "timeout 0; come 0; cut 0 2;");
        // ASK to 2 is LOST, VOTE of 1 comes, TAKE to 1 waits, to 2 is LOST at once, TOOK comes.
        due("COME", x.storm(0), 4);
        due("LOST", x.storm(1), 2);
        int lost = x.count(1);
        x.settle(200);
        due("by hand", x.count(1) - lost, 2);
    }

    // ---- 40: rounds

    /** Each round by hand: the leader SENDS to all, and 300 messages COME at most. */
    private static int roundsByHand(AgreedLog x) {
        int s = x.leader();
        for (int round = 1; s != NONE && round <= 30; round++) {
            x.beat(s);
            comeByHand(x);
            if (x.store(s, 3) != 2) {
                return NONE;
            }
            if (allAgreed(x, s)) {
                return round;
            }
        }
        return NONE;
    }

    private static boolean allAgreed(AgreedLog x, int s) {
        int members = x.store(s, 9) | x.store(s, 10);
        for (int t = 0; t < 5; t++) {
            boolean asked = (members >> t & 1) == 1 && x.store(t, 0) == 1 && (t == s || x.linked(s, t) == 1);
            if (asked && x.store(t, 8) != x.store(s, 8)) {
                return false;
            }
        }
        return x.store(s, 8) == x.store(s, 4);
    }

    static void p40_thereIsNoLeaderIsNone() {
        Bounds.answers(new AgreedLog(), x -> x.rounds(), NONE);
        Bounds.answers(Bounds.after(31, "timeout 0;"), x -> x.rounds(), NONE);
    }

    static void p40_notIn20IsNone() {
        Bounds.answers(Bounds.led(31, "set 0 0 1; lose 0; lose 0; lose 0; lose 0; stop 1; stop 2; stop 3;"), x -> x.rounds(), NONE);
        Bounds.answers(Bounds.led(31, "cut 0 1; cut 0 2; cut 0 3; set 0 0 1;"), x -> x.rounds(), NONE);
    }

    static void p40_itIsntTheLeaderAnyMoreIsNone() {
        Bounds.answers(Bounds.led(31, "timeout 1;"), x -> x.rounds(), NONE);
        Bounds.answers(Bounds.led(7, "change 0 6;"), x -> x.rounds(), NONE);
    }

    static void p40_oneAtLeast() {
        due("all have AGREED already", Bounds.led(31, "beat 0; settle 99;").rounds(), 1);
        due("alone", Bounds.led(1).rounds(), 1);
    }

    static void p40_twoIfWhatIsAgreedMustBeToldYet() {
        due("SENT by now", Bounds.led(31, "set 0 0 1;").rounds(), 2);
        AgreedLog x = Bounds.led(31, "set 0 0 1; settle 99;");
        due("AGREED by it", x.rounds(), 1);
    }

    static void p40_20Rounds_and21() {
        boolean[] seen = new boolean[31];
        for (int differing = 26; differing <= 36; differing++) {
            int byHand = roundsByHand(manyRounds(differing));
            due("differing at " + differing, manyRounds(differing).rounds(), byHand > 20 ? NONE : byHand);
            if (byHand > 0) {
                seen[byHand] = true;
            }
        }
        due("19 was among them", seen[19] ? 1 : 0, 1);
        due("20 was among them", seen[20] ? 1 : 0, 1);
        due("21 was among them", seen[21] ? 1 : 0, 1);
    }

    /** 60 TAKEs wait for 4, whose LOG differs at so many places that each row of answers goes back one by one. */
    private static AgreedLog manyRounds(int differing) {
        AgreedLog x = Bounds.after(31, "timeout 4; settle 99; cut 4 0; cut 4 1; cut 4 2; cut 4 3;",
            "times " + differing + " { set 4 0 1; }", "timeout 0; settle 99; times 40 { set 0 0 1; settle 60; }",
            "stop 0; start 0; timeout 0; settle 99; join 4 0; cut 0 1; cut 0 2; cut 0 3;",
            "times 50 { beat 0; } times 10 { beat 0; } join 0 1; join 0 2; join 0 3;");
        due("60 wait", x.count(0), 60);
        return x;
    }

    static void p40_ofThoseUpAndLinkedAlone() {
        due("one isn't UP", Bounds.led(31, "stop 4; set 0 0 1; settle 99;").rounds(), 1);
        due("one isn't linked", Bounds.led(31, "cut 0 4; set 0 0 1; settle 99;").rounds(), 1);
        due("none but itself, all AGREED", Bounds.led(31, "stop 1; stop 2; stop 3; stop 4;").rounds(), 1);
        due("no MEMBERS don't count", Bounds.led(3, "beat 0; settle 99;").rounds(), 1);
    }

    /** 2 lacks much and is told last, when the entry is AGREED by 0, which must be told once more. */
    static void p40_whoeverOfThemLacksIt() {
        for (int lacks : new int[] {0, 2}) {
            int other = 2 - lacks;
            AgreedLog x = Bounds.after(7, "timeout 1; settle 99; cut 1 " + other + "; times 6 { set 1 0 1; settle 9; } beat 1; settle 9;",
                "join 1 " + other + "; set 1 0 2;");
            Bounds.loseAll(x);
            due("two, for " + lacks, x.rounds(), 2);
        }
    }

    /** JOINT can be AGREED at LAST 120 alone, as no NEW comes there; 3 is in the second set alone and isn't told so yet. */
    static void p40_ofJointBothSetsCount() {
        AgreedLog x = Bounds06to09Test.jointAgreedWithoutRoom();
        x.settle(200);
        due("AGREED at LAST", x.store(2, 8), 120);
        due("JOINT still", x.store(2, 10), 14);
        x.beat(2);
        Bounds.come(x, 2, 0, 2);
        Bounds.come(x, 2, 1, 2);
        Bounds.loseAll(x);
        due("AGREED in the first set", Math.min(x.store(0, 8), x.store(1, 8)), 120);
        due("not in the second", x.store(3, 8), 119);
        due("it is told in the first round", x.rounds(), 1);
        x.beat(2);
        Bounds.loseAllBut(x, 2, 1, 2);
        while (x.count(0) < 60) {
            x.twice(0);
        }
        due("what is SENT in the first round is LOST", x.rounds(), 2);
    }

    static void p40_nothingChanges() {
        AgreedLog x = Bounds.led(31, "set 0 0 1; read 0 0;");
        int[] before = Bounds.facts(x);
        due("two", x.rounds(), 2);
        Bounds.same("nothing has changed", before, Bounds.facts(x));
    }

    // ---- 41: could

    static void p41_noSuchStoreIsMinus2_aheadOfMinus3AndMinus5() {
        for (int wrong : Bounds.NO_STORES) {
            Bounds.answers(new AgreedLog(), x -> x.could(wrong, 0), -2);
            Bounds.answers(new AgreedLog(), x -> x.could(wrong, 4), -2);
            Bounds.answers(nine(), x -> x.could(wrong, 0), -2);
        }
    }

    static void p41_nMinus1And4AreMinus3_aheadOfMinus5() {
        for (int wrong : new int[] {-1, 4, Bounds.LOW, Bounds.HIGH}) {
            Bounds.answers(new AgreedLog(), x -> x.could(0, wrong), -3);
            Bounds.answers(nine(), x -> x.could(0, wrong), -3);
        }
    }

    private static AgreedLog nine() {
        return Bounds.after(31, "timeout 0; timeout 1; twice 0;");
    }

    static void p41_8Wait_9AreMinus5() {
        due("8", Bounds.after(31, "timeout 0; timeout 1;").could(0, 3), 0);
        for (int n = 0; n <= 3; n++) {
            int steps = n;
            Bounds.answers(nine(), x -> x.could(0, steps), -5);
        }
        Bounds.answers(Bounds.led(31, "beat 0; beat 0; beat 0;"), x -> x.could(0, 0), -5);
    }

    static void p41_0_whoIsIt() {
        due("the leader", Bounds.led(31).could(0, 0), 1);
        due("another one", Bounds.led(31).could(1, 0), 0);
        due("or fewer", Bounds.led(31).could(0, 3), 1);
    }

    static void p41_1_aSetOfOne() {
        AgreedLog x = Bounds.after(1);
        due("0", x.could(0, 0), 0);
        due("1", x.could(0, 1), 1);
        due("no MEMBER", x.could(1, 3), 0);
        due("CAREFUL", Bounds.after(1, "careful 1;").could(0, 1), 1);
        due("not UP", Bounds.after(1, "stop 0;").could(0, 3), 0);
    }

    static void p41_3_aSetOfTwo() {
        AgreedLog x = Bounds.after(3);
        due("2", x.could(0, 2), 0);
        due("3", x.could(0, 3), 1);
        x.timeout(0);
        due("1", x.could(0, 1), 0);
        due("2", x.could(0, 2), 1);
        x.come(0);
        due("0", x.could(0, 0), 0);
        due("1", x.could(0, 1), 1);
        x.come(0);
        due("it is", x.could(0, 0), 1);
    }

    static void p41_aLinkThatIsCut_oneThatIsntUp() {
        due("cut", Bounds.after(3, "cut 0 1;").could(0, 3), 0);
        due("cut by now", Bounds.after(3, "timeout 0; cut 0 1;").could(0, 3), 0);
        due("not UP", Bounds.after(3, "stop 1;").could(0, 3), 0);
        due("itself isn't UP", Bounds.after(3, "timeout 0; come 0; stop 0;").could(0, 3), 0);
    }

    static void p41_careful() {
        AgreedLog x = Bounds.after(3, "careful 1;");
        due("it takes 5", x.could(0, 3), 0);
        x.timeout(0);
        due("4 left", x.could(0, 3), 0);
        x.come(0);
        due("3 left", x.could(0, 3), 1);
        due("not by 2", x.could(0, 2), 0);
    }

    static void p41_now() {
        AgreedLog x = Bounds.led(3, "hand 0 1;");
        due("NOW, ASK, VOTE", x.could(1, 3), 1);
        due("not by 2", x.could(1, 2), 0);
    }

    static void p41_aMemberByWhatComes() {
        AgreedLog x = Bounds.led(3, "beat 0; settle 99; change 0 2;");
        // 1 takes JOINT, then 0 is told, then 1 takes NEW: one step more and it would stand alone.
        due("not by 3", x.could(1, 3), 0);
        Bounds.come(x, 0, 1, 2);
        Bounds.come(x, 1, 0, 3);
        due("NEW, TIMEOUT", x.could(1, 2), 1);
        due("not by 1", x.could(1, 1), 0);
    }

    static void p41_term200() {
        AgreedLog y = Bounds.after(3);
        Bounds.raiseTerm(y, 0, 199);
        due("TERM 199", y.could(0, 3), 1);
        AgreedLog z = Bounds.after(3);
        Bounds.raiseTerm(z, 0, 200);
        due("TERM 200: no TIMEOUT, nothing waits", z.could(0, 3), 0);
    }

    /** 1 wouldn't grant 0 a vote; a TAKE of 2 overwrites what it has by older entries, and then it would. */
    static void p41_aLogThatIsOverwrittenFirst() {
        AgreedLog x = new AgreedLog();
        electBy34(x, 2, 1);
        x.propose(2, 1, 0, 1);
        x.propose(2, 1, 0, 2);
        electBy34(x, 0, 2);
        electBy34(x, 1, 3);
        x.stop(2);
        x.start(2);
        electBy34(x, 2, 4);
        x.beat(2);
        // Twice 1 answers that it hasn't what is BEFORE, so the third TAKE begins at the first place.
        for (int i = 0; i < 2; i++) {
            Bounds.come(x, 2, 1, 2);
            Bounds.come(x, 1, 2, 3);
        }
        due("BEFORE", x.message(x.first(2, 1, 2), 4), 0);
        for (int t : new int[] {0, 3, 4}) {
            Bounds.lose(x, 2, t, 2);
        }
        x.stop(0);
        x.start(0);
        while (x.store(0, 1) < 5) {
            loseAllOf(x, 0);
            x.timeout(0);
        }
        Bounds.come(x, 0, 3, 0);
        Bounds.come(x, 3, 0, 1);
        Bounds.lose(x, 0, 2, 0);
        Bounds.lose(x, 0, 4, 0);
        due("two votes", x.store(0, 11), 9);
        due("TAKE and ASK wait", x.count(0), 2);
        due("1 wouldn't grant it now", x.grants(0) >> 1 & 1, 0);
        due("not by 2", x.could(0, 2), 0);
        due("TAKE, ASK, VOTE", x.could(0, 3), 1);
        Bounds.come(x, 2, 1, 2);
        due("older ones", x.store(1, 5), 1);
        Bounds.come(x, 0, 1, 0);
        Bounds.come(x, 1, 0, 1);
        due("so it is", x.leader(), 0);
    }

    private static void loseAllOf(AgreedLog x, int from) {
        for (int i = x.count(0) - 1; i >= 0; i--) {
            if (x.message(i, 0) == from) {
                x.lose(i);
            }
        }
    }

    /** Elected in that TERM by 3 and 4, which have no entries; no other message comes. */
    private static void electBy34(AgreedLog x, int s, int term) {
        while (x.store(s, 1) < term) {
            Bounds.loseAll(x);
            x.timeout(s);
        }
        for (int t = 3; t <= 4; t++) {
            Bounds.come(x, s, t, 0);
            Bounds.come(x, t, s, 1);
        }
        due("elected", x.leaders(term), 1 << s);
        Bounds.loseAll(x);
    }

    static void p41_nothingChanges() {
        AgreedLog x = Bounds.after(3, "timeout 0;");
        int[] before = Bounds.facts(x);
        due("2", x.could(0, 2), 1);
        Bounds.same("nothing has changed", before, Bounds.facts(x));
    }

    // ---- 42: fragile

    static void p42_setsOf1To5() {
        int[] sets = {1, 3, 7, 15, 31};
        int[] want = {1, 1, 2, 2, 3};
        for (int i = 0; i < 5; i++) {
            due("set " + sets[i], Bounds.after(sets[i]).fragile(), want[i]);
        }
    }

    static void p42_noneIsElectableNow_0() {
        due("two of five UP", Bounds.after(31, "stop 0; stop 1; stop 2;").fragile(), 0);
        due("none UP", Bounds.after(31, "stop 0; stop 1; stop 2; stop 3; stop 4;").fragile(), 0);
        due("all links cut", Bounds.after(3, "cut 0 1;").fragile(), 0);
        due("the one MEMBER isn't UP", Bounds.after(1, "stop 0;").fragile(), 0);
    }

    static void p42_ofThoseUp() {
        due("three of five UP", Bounds.after(31, "stop 0; stop 1;").fragile(), 1);
        due("four of five UP", Bounds.after(31, "stop 0;").fragile(), 2);
        due("no MEMBERS don't matter", Bounds.after(7, "stop 3; stop 4;").fragile(), 2);
    }

    static void p42_linksAndLogs() {
        AgreedLog x = Bounds.led(31, "set 0 0 1; come 0; come 0; beat 0;");
        due("three have what two lack", x.fragile(), 3);
        x.link(2, 3, 0);
        due("2 could have no three without 0 and 1", x.fragile(), 2);
    }

    static void p42_joint() {
        AgreedLog x = Bounds.led(1, "change 0 6; lose 0; lose 0;");
        due("0 alone is electable, with 1 and 2", x.fragile(), 1);
    }

    static void p42_nothingChanges() {
        AgreedLog x = Bounds.led(31, "set 0 0 1; read 0 0;");
        int[] before = Bounds.facts(x);
        due("three", x.fragile(), 3);
        Bounds.same("nothing has changed", before, Bounds.facts(x));
    }
}
