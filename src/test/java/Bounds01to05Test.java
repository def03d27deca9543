/** The boundary cases of promises 1 to 5, each sentence of the document in a test of its own. */
public final class Bounds01to05Test {
    private static final int NONE = AgreedLog.NONE;

    private Bounds01to05Test() { }

    private static void due(String what, long got, long want) {
        Bounds.due(what, got, want);
    }

    public static void main(String[] args) {
        Bounds.run(Bounds01to05Test.class, 1, 5);
    }

    // ---- 1: a new object

    static void p01_storesAre0To4() {
        AgreedLog x = new AgreedLog();
        due("-1", x.store(-1, 0), -2);
        due("0", x.store(0, 0), 1);
        due("4", x.store(4, 0), 1);
        due("5", x.store(5, 0), -2);
    }

    static void p01_allAreUpAndTheFirstSetIs31() {
        AgreedLog x = new AgreedLog();
        due("UP", x.count(3), 31);
        due("the first set", x.count(8), 31);
        for (int s = 0; s < 5; s++) {
            due("MEMBERS", x.store(s, 9), 31);
            due("not JOINT", x.store(s, 10), 0);
        }
    }

    static void p01_termsVotesRolesReadsRoundsAreNoneAtFirst() {
        AgreedLog x = new AgreedLog();
        for (int s = 0; s < 5; s++) {
            due("TERM", x.store(s, 1), 0);
            due("VOTED", x.store(s, 2), NONE);
            due("ROLE", x.store(s, 3), 0);
            due("votes", x.store(s, 11), 0);
            due("READ", x.store(s, 12), 0);
            due("its CELL", x.store(s, 13), NONE);
            due("its number", x.store(s, 14), 0);
            due("ROUND", x.store(s, 15), 0);
            due("heard", x.store(s, 16), 0);
        }
    }

    static void p01_logHasNoEntriesAndTheSnapshotIsAtPlace0() {
        AgreedLog x = new AgreedLog();
        for (int s = 0; s < 5; s++) {
            due("LAST", x.store(s, 4), 0);
            due("the TERM there", x.store(s, 5), 0);
            due("the SNAPSHOT's place", x.store(s, 6), 0);
            due("the TERM there", x.store(s, 7), 0);
            due("AGREED", x.store(s, 8), 0);
            due("no entry at 0", x.entry(s, 0, 0), -1000);
            due("no entry at 1", x.entry(s, 1, 0), -1000);
            for (int c = 0; c < 4; c++) {
                due("CELL", x.cell(s, c), 0);
            }
        }
        due("FIRST AGREED", x.agreed(1, 0), -1000);
    }

    static void p01_nothingWaitsNothingIsCutNothingWasTold() {
        AgreedLog x = new AgreedLog();
        int[] want = {0, 0, 0, 31, 0, 0, 0, 0, 31, 0, 0};
        for (int what = 0; what < want.length; what++) {
            due("count " + what, x.count(what), want[what]);
        }
        for (int a = 0; a < 5; a++) {
            for (int b = 0; b < 5; b++) {
                due("linked", x.linked(a, b), a == b ? -3 : 1);
            }
        }
        for (int term = 1; term <= 200; term++) {
            due("LEADERS", x.leaders(term), 0);
        }
        due("IMAGE 0", x.restore(0), -6);
        due("IMAGE 1", x.restore(1), -6);
        due("the FAULT", x.fault(0), 0);
        due("its place", x.fault(1), NONE);
        due("halted", x.halted(0), 0);
        due("its place", x.halted(1), NONE);
    }

    static void p01_twoObjectsShareNothing() {
        AgreedLog x = Bounds.led(31, "set 0 0 7; settle 99; cut 1 2; stop 4;");
        x.image(0);
        x.feed(1, 2, 3, 4, 5);
        AgreedLog y = new AgreedLog();
        due("TERM", y.count(5), 0);
        due("UP", y.count(3), 31);
        due("linked", y.linked(1, 2), 1);
        due("THE TAPE", y.count(10), 0);
        due("IMAGE", y.restore(0), -6);
    }

    // ---- 2: begin

    static void p02_setsFrom1To31_howManyAreInIt() {
        for (int set = 1; set <= 31; set++) {
            AgreedLog x = new AgreedLog();
            due("set " + set, x.begin(set), Integer.bitCount(set));
            due("the first set", x.count(8), set);
            for (int s = 0; s < 5; s++) {
                due("MEMBERS", x.store(s, 9), set);
            }
        }
    }

    static void p02_sets0And32AreRefusedByMinus3() {
        for (int wrong : new int[] {0, 32, -1, Bounds.LOW, Bounds.HIGH}) {
            Bounds.refused(AgreedLog::new, x -> x.begin(wrong), -3);
            Bounds.refused(() -> Bounds.led(7, "careful 1; cut 0 1; beat 0; stop 2;"), x -> x.begin(wrong), -3);
        }
    }

    static void p02_allIsAnew() {
        AgreedLog x = Bounds.led(31, "set 0 1 5; settle 99; read 0 1; compact 0; change 0 7; cut 3 4; stop 2; careful 1; come 0;");
        x.begin(21);
        AgreedLog fresh = new AgreedLog();
        fresh.begin(21);
        while (x.count(7) < 8) {
            x.careful(0);
        }
        while (fresh.count(7) < 8) {
            fresh.careful(0);
        }
        Bounds.same("as in a new object", Bounds.facts(fresh), Bounds.facts(x));
    }

    static void p02_allIsAnew_snapshotsVotesAndWhatWasLostToo() {
        AgreedLog x = Bounds.jointInASnapshot();
        Bounds.play(x, "cut 0 1; beat 0; timeout 3;");
        due("LOST", x.count(1) > 0 ? 1 : 0, 1);
        due("votes", x.store(3, 11), 8);
        x.begin(31);
        due("none LOST", x.count(1), 0);
        for (int s = 0; s < 5; s++) {
            due("no votes", x.store(s, 11), 0);
            due("not JOINT", x.store(s, 10), 0);
            due("a STOP", x.stop(s), 0);
            due("CELL 0 of the SNAPSHOT at place 0", x.cell(s, 0), 0);
            due("CELL 3 of the SNAPSHOT at place 0", x.cell(s, 3), 0);
        }
    }

    static void p02_allIsAnew_noEntryOfBeforeIsThereForAnInstall() {
        AgreedLog x = Bounds.led(7, "set 0 0 1; settle 99;");
        x.begin(7);
        Bounds.play(x, "stop 2; timeout 0; settle 99; set 0 0 4; settle 99; compact 0; start 2; beat 0;");
        due("LAST", x.store(2, 4), 0);
        Bounds.come(x, 0, 2, 4);
        due("LAST is the SNAPSHOT's place", x.store(2, 4), 2);
        due("the TERM there", x.store(2, 5), 1);
        due("CELL", x.cell(2, 0), 4);
    }

    static void p02_setOfOneStore() {
        for (int s = 0; s < 5; s++) {
            AgreedLog x = new AgreedLog();
            due("one", x.begin(1 << s), 1);
            for (int t = 0; t < 5; t++) {
                due("a TIMEOUT of the one alone", x.timeout(t), t == s ? 1 : -5);
            }
            due("leader", x.leader(), s);
        }
    }

    static void p02_notCarefulBehindIt() {
        AgreedLog x = Bounds.after(31, "careful 1;");
        due("CAREFUL", x.count(9), 1);
        x.begin(31);
        due("not", x.count(9), 0);
    }

    static void p02_canBeUndoneAsAWhole() {
        AgreedLog x = Bounds.led(31, "set 0 1 5; beat 0; cut 1 3; careful 1;");
        int[] before = Bounds.facts(x);
        x.begin(31);
        x.undo(1);
        Bounds.same("as it was", before, Bounds.facts(x));
    }

    static void p02_theTapeTheFaultHaltedAndImagesStay() {
        AgreedLog x = new AgreedLog();
        x.stop(1);
        x.image(1);
        Check.script(x, "stop 1;");
        Check.script(x, "stop;");
        x.feed(0, 0, 0, 0, 0);
        x.begin(31);
        due("THE TAPE", x.count(10), 20);
        due("the FAULT", x.fault(0), 1);
        due("its place", x.fault(1), 4);
        due("halted", x.halted(0), -5);
        due("its place", x.halted(1), 0);
        due("IMAGE 0", x.restore(0), -6);
        due("IMAGE 1", x.restore(1), 0);
        due("as it was", x.count(3), 29);
    }

    // ---- 3: careful

    static void p03_0And1_whatItWas() {
        AgreedLog x = new AgreedLog();
        due("0 at first", x.careful(0), 0);
        due("it was 0", x.careful(1), 0);
        due("it was 1", x.careful(1), 1);
        due("it was 1", x.careful(0), 1);
        due("it is 0", x.count(9), 0);
    }

    static void p03_minus1And2AreRefusedByMinus3() {
        for (int wrong : new int[] {-1, 2, Bounds.LOW, Bounds.HIGH}) {
            Bounds.refused(AgreedLog::new, x -> x.careful(wrong), -3);
            Bounds.refused(() -> Bounds.after(31, "careful 1; timeout 2;"), x -> x.careful(wrong), -3);
        }
    }

    static void p03_alsoIfNothingChangesItCanBeUndone() {
        AgreedLog x = new AgreedLog();
        x.careful(0);
        due("one call", x.count(7), 1);
        x.careful(1);
        x.careful(1);
        due("three calls", x.count(7), 3);
        x.undo(1);
        due("CAREFUL still", x.count(9), 1);
        x.undo(1);
        due("not any more", x.count(9), 0);
    }

    static void p03_fromNowOn_whoAsksFirstGoesOn() {
        AgreedLog x = Bounds.after(31, "careful 1; timeout 0; careful 0;");
        due("ROLE 3 still", x.store(0, 3), 3);
        due("MAYs wait still", x.first(0, 1, 7), 0);
        x.settle(200);
        due("its votes count still", x.leader(), 0);
        due("another one STANDS at once", x.timeout(1), 2);
        due("candidate", x.store(1, 3), 1);
    }

    // ---- 4: timeout

    static void p04_noSuchStoreIsRefusedByMinus2() {
        for (int wrong : Bounds.NO_STORES) {
            Bounds.refused(AgreedLog::new, x -> x.timeout(wrong), -2);
        }
        due("0", new AgreedLog().timeout(0), 1);
        due("4", new AgreedLog().timeout(4), 1);
    }

    static void p04_oneThatIsntUpIsRefusedByMinus5() {
        Bounds.refused(() -> Bounds.after(31, "stop 2;"), x -> x.timeout(2), -5);
        due("UP again", Bounds.after(31, "stop 2; start 2;").timeout(2), 1);
    }

    static void p04_theLeaderIsRefusedByMinus5_othersArent() {
        Bounds.refused(() -> Bounds.led(31), x -> x.timeout(0), -5);
        Bounds.refused(() -> Bounds.led(31, "careful 1;"), x -> x.timeout(0), -5);
        due("a follower", Bounds.led(31).timeout(1), 2);
        due("a candidate", Bounds.after(31, "timeout 1;").timeout(1), 2);
        due("one that asks first", Bounds.after(31, "careful 1; timeout 1; careful 0;").timeout(1), 1);
    }

    static void p04_noMemberIsRefusedByMinus5() {
        Bounds.refused(() -> Bounds.after(7), x -> x.timeout(3), -5);
        due("the last MEMBER", Bounds.after(7).timeout(2), 1);
        Bounds.refused(() -> Bounds.led(7, "change 0 6; settle 99;"), x -> x.timeout(0), -5);
    }

    static void p04_memberOfTheSecondSetOfJointAlone() {
        AgreedLog x = Bounds.led(3, "change 0 12;");
        due("it lacks the entry", x.store(2, 10), 0);
        due("no MEMBER yet", x.timeout(2), -5);
        Bounds.come(x, 0, 2, 2);
        due("JOINT", x.store(2, 10), 12);
        due("a MEMBER", x.timeout(2), 2);
    }

    static void p04_term199CanAndTerm200Cant() {
        AgreedLog x = new AgreedLog();
        Bounds.raiseTerm(x, 0, 198);
        due("198", x.timeout(0), 199);
        due("199", x.timeout(0), 200);
        due("200", x.timeout(0), -5);
        Bounds.refused(() -> {
            AgreedLog y = new AgreedLog();
            Bounds.raiseTerm(y, 0, 200);
            return y;
        }, y -> y.timeout(0), -5);
    }

    static void p04_term200ByAMessageCantEither() {
        AgreedLog x = new AgreedLog();
        Bounds.raiseTerm(x, 0, 199);
        due("200", x.timeout(0), 200);
        Bounds.come(x, 0, 3, 0);
        due("it has it, too", x.store(3, 1), 200);
        due("none above", x.timeout(3), -5);
        due("one that lacks it can", x.timeout(2), 1);
    }

    static void p04_carefulAtTerm199And200() {
        AgreedLog x = new AgreedLog();
        Bounds.raiseTerm(x, 0, 199);
        x.careful(1);
        due("TERM stays", x.timeout(0), 199);
        due("MAY with one more", Bounds.latest(x, 3), 200);
        x.settle(200);
        due("elected in TERM 200", x.leaders(200), 1);
        AgreedLog y = new AgreedLog();
        Bounds.raiseTerm(y, 0, 200);
        y.careful(1);
        due("none above", y.timeout(0), -5);
    }

    static void p04_setOfOneIsTheLeaderAtOnce() {
        AgreedLog x = Bounds.after(16);
        due("TERM", x.timeout(4), 1);
        due("leader", x.store(4, 3), 2);
        due("votes are gone", x.store(4, 11), 0);
        due("nothing is SENT to oneself", x.count(0), 0);
        due("nothing LOST", x.count(1), 0);
        due("its entry", x.entry(4, 1, 1), 0);
        due("AGREED", x.store(4, 8), 1);
        due("LEADERS", x.leaders(1), 16);
    }

    static void p04_setOfTwoNeedsBoth() {
        AgreedLog x = Bounds.after(3, "timeout 0;");
        due("one of two", x.store(0, 3), 1);
        x.settle(2);
        due("two of two", x.store(0, 3), 2);
    }

    static void p04_setOfFourNeedsThree() {
        AgreedLog x = Bounds.after(15, "timeout 0;");
        Bounds.come(x, 0, 1, 0);
        Bounds.come(x, 1, 0, 1);
        due("two of four", x.store(0, 3), 1);
        due("two votes", x.store(0, 11), 3);
        Bounds.come(x, 0, 2, 0);
        Bounds.come(x, 2, 0, 1);
        due("three of four", x.store(0, 3), 2);
    }

    static void p04_jointNeedsMoreThanHalfOfEachSet() {
        AgreedLog x = Bounds.led(1, "change 0 6; lose 0; lose 0; stop 0; start 0;");
        due("JOINT", x.store(0, 10), 6);
        due("TERM", x.timeout(0), 2);
        due("all of one set, none of the other", x.store(0, 3), 1);
        Bounds.come(x, 0, 1, 0);
        Bounds.come(x, 1, 0, 1);
        due("half of the other", x.store(0, 3), 1);
        Bounds.come(x, 0, 2, 0);
        Bounds.come(x, 2, 0, 1);
        due("all of both", x.store(0, 3), 2);
    }

    static void p04_asksAreSentToMembersOfBothSetsRising() {
        AgreedLog x = Bounds.led(3, "change 0 24; settle 1; lose 0; lose 0; lose 0;");
        due("1 has JOINT", x.store(1, 10), 24);
        due("TERM", x.timeout(1), 2);
        int[] to = {0, 3, 4};
        due("three", x.count(0), 3);
        for (int i = 0; i < 3; i++) {
            due("ASK", x.message(i, 2), 0);
            due("from", x.message(i, 0), 1);
            due("to", x.message(i, 1), to[i]);
        }
    }

    static void p04_noneButMembersAreAsked() {
        AgreedLog x = Bounds.after(20, "timeout 4;");
        due("one", x.count(0), 1);
        due("to 2", x.message(0, 1), 2);
        x = Bounds.after(20, "careful 1; timeout 2;");
        due("one", x.count(0), 1);
        due("MAY", x.message(0, 2), 7);
        due("to 4", x.message(0, 1), 4);
    }

    static void p04_againItHasItsOwnVoteAlone() {
        AgreedLog x = Bounds.after(31, "timeout 0; come 0; come 3;");
        due("two votes", x.store(0, 11), 3);
        due("again", x.timeout(0), 2);
        due("its own", x.store(0, 11), 1);
        due("VOTED", x.store(0, 2), 0);
        x = Bounds.after(31, "careful 1; timeout 0; come 0; come 3;");
        due("two votes", x.store(0, 11), 3);
        due("asks again", x.timeout(0), 0);
        due("its own", x.store(0, 11), 1);
    }

    static void p04_carefulSetOfOneStandsAtOnce() {
        AgreedLog x = Bounds.after(8, "careful 1;");
        due("TERM then", x.timeout(3), 1);
        due("leader", x.store(3, 3), 2);
        due("nothing waits", x.count(0), 0);
    }

    static void p04_carefulTermStaysAndVotedStays() {
        AgreedLog x = Bounds.after(3, "careful 1;");
        due("TERM then", x.timeout(0), 0);
        due("ROLE 3", x.store(0, 3), 3);
        due("one of two", x.store(0, 11), 1);
        due("VOTED none", x.store(0, 2), NONE);
        x = Bounds.after(31, "timeout 0; careful 1;");
        due("a candidate asks first", x.timeout(0), 1);
        due("ROLE 3", x.store(0, 3), 3);
        due("VOTED as it was", x.store(0, 2), 0);
        due("MAY with one more", Bounds.latest(x, 3), 2);
    }

    static void p04_upTo60Wait_theRestIsLost() {
        for (int waiting = 55; waiting <= 60; waiting++) {
            AgreedLog x = Bounds.led(31);
            Bounds.fillTo(x, 0, waiting);
            due("TERM", x.timeout(1), 2);
            due("wait, from " + waiting, x.count(0), Math.min(60, waiting + 4));
            due("LOST, from " + waiting, x.count(1), Math.max(0, waiting + 4 - 60));
        }
        AgreedLog x = Bounds.led(31);
        Bounds.fillTo(x, 0, 59);
        x.timeout(1);
        due("the first one waits", Bounds.latest(x, 1), 0);
    }

    static void p04_byALinkThatIsCutItIsLostAtOnce() {
        AgreedLog x = Bounds.after(31, "cut 0 2; timeout 0;");
        due("wait", x.count(0), 3);
        due("LOST", x.count(1), 1);
        due("none to 2", x.first(0, 2, 0), NONE);
        x = Bounds.after(31, "careful 1; cut 2 0; timeout 0;");
        due("MAYs wait", x.count(0), 3);
        due("LOST", x.count(1), 1);
    }

    static void p04_toOneThatIsntUpItWaits() {
        AgreedLog x = Bounds.after(31, "stop 1; timeout 0;");
        due("wait", x.count(0), 4);
        due("none LOST", x.count(1), 0);
        x = Bounds.after(31, "careful 1; stop 1; timeout 0;");
        due("MAYs wait", x.count(0), 4);
        due("none LOST", x.count(1), 0);
    }

    static void p04_askTellsLast0AndTerm0OfALogWithoutEntries() {
        AgreedLog x = Bounds.after(31, "timeout 0;");
        due("LAST", x.message(0, 4), 0);
        due("the TERM there", x.message(0, 5), 0);
        x = Bounds.after(31, "careful 1; timeout 0;");
        due("LAST", x.message(0, 4), 0);
        due("the TERM there", x.message(0, 5), 0);
    }

    static void p04_askTellsTheSnapshotsPlaceIfNothingIsBehind() {
        AgreedLog x = Bounds.led(31, "beat 0; settle 99; compact 1; timeout 1;");
        due("no entry", x.entry(1, 1, 0), -1000);
        due("LAST", x.message(0, 4), 1);
        due("the TERM there", x.message(0, 5), 1);
    }

    static void p04_leaderAtLast119GetsAnEntryAt120None() {
        AgreedLog x = Bounds.aloneWithLast(119);
        Bounds.play(x, "stop 0; start 0;");
        due("TERM", x.timeout(0), 21);
        due("LAST", x.store(0, 4), 120);
        due("AGREED", x.store(0, 8), 120);
        Bounds.play(x, "stop 0; start 0;");
        due("TERM", x.timeout(0), 22);
        due("leader", x.store(0, 3), 2);
        due("LAST stays", x.store(0, 4), 120);
        due("the TERM there", x.store(0, 5), 21);
        due("none of its TERM: nothing is AGREED", x.store(0, 8), 0);
        due("LEADERS all the same", x.leaders(22), 1);
    }

    static void p04_readIs0ForWhoBecomesTheLeader() {
        AgreedLog x = Bounds.led(1, "read 0 0;");
        due("answered", x.store(0, 12), 2);
        Bounds.play(x, "change 0 3; settle 99; timeout 1; settle 99;");
        due("another leader", x.leader(), 1);
        due("answered still", x.store(0, 12), 2);
        Bounds.play(x, "timeout 0;");
        due("a candidate has it still", x.store(0, 12), 2);
        Bounds.play(x, "settle 99;");
        due("leader again", x.leader(), 0);
        due("READ 0", x.store(0, 12), 0);
        due("no CELL", x.store(0, 13), NONE);
    }

    // ---- 5: beat

    static void p05_noSuchStoreIsRefusedByMinus2() {
        for (int wrong : Bounds.NO_STORES) {
            Bounds.refused(() -> Bounds.led(31), x -> x.beat(wrong), -2);
        }
    }

    static void p05_whoIsntTheLeaderIsRefusedByMinus5() {
        Bounds.refused(() -> Bounds.led(31), x -> x.beat(1), -5);
        Bounds.refused(() -> Bounds.after(31, "timeout 1;"), x -> x.beat(1), -5);
        Bounds.refused(() -> Bounds.after(31, "careful 1; timeout 1;"), x -> x.beat(1), -5);
        Bounds.refused(() -> Bounds.led(31, "stop 0;"), x -> x.beat(0), -5);
        Bounds.refused(() -> Bounds.led(31, "stop 0; start 0;"), x -> x.beat(0), -5);
    }

    static void p05_aloneNothingIsSent() {
        AgreedLog x = Bounds.after(4, "timeout 2;");
        due("none waits", x.beat(2), 0);
        due("none LOST", x.count(1), 0);
        due("told all the same", x.count(7), 3);
    }

    static void p05_howManyWait_60AtMost() {
        AgreedLog x = Bounds.led(31);
        for (int i = 1; i <= 15; i++) {
            due("beat " + i, x.beat(0), 4 * i);
        }
        due("none LOST", x.count(1), 0);
        due("the 16th", x.beat(0), 60);
        due("all LOST", x.count(1), 4);
        AgreedLog y = Bounds.led(31);
        Bounds.fillTo(y, 0, 59);
        due("room for one", y.beat(0), 60);
        due("three LOST", y.count(1), 3);
        due("to the first", Bounds.latest(y, 1), 1);
    }

    static void p05_upTo3EntriesInATake() {
        AgreedLog x = Bounds.led(31, "beat 0; settle 99;");
        for (int n = 0; n <= 5; n++) {
            x.beat(0);
            due("BEFORE", Bounds.latest(x, 4), 1);
            due("entries, of " + n, Bounds.latest(x, 6), Math.min(3, n));
            Bounds.loseAll(x);
            x.propose(0, 1, 0, n);
            Bounds.loseAll(x);
        }
    }

    static void p05_installIfNextIsTheSnapshotsPlace_takeIfItIsOneMore() {
        AgreedLog x = Bounds.led(7, "stop 2; set 0 0 4; settle 99; compact 0;");
        due("SNAPSHOT", x.store(0, 6), 2);
        due("NEXT of 1", x.follows(0, 1, 0), 3);
        due("NEXT of 2", x.follows(0, 2, 0), 2);
        due("two wait", x.beat(0), 2);
        due("TAKE", x.message(0, 2), 2);
        due("BEFORE is the SNAPSHOT's place", x.message(0, 4), 2);
        due("the TERM there", x.message(0, 5), 1);
        due("no entries", x.message(0, 6), 0);
        due("INSTALL", x.message(1, 2), 4);
        due("its place", x.message(1, 4), 2);
        due("the TERM there", x.message(1, 5), 1);
    }

    static void p05_installIfNextIsBelowTheSnapshotsPlace() {
        AgreedLog x = Bounds.led(7, "stop 2; set 0 0 4; set 0 0 5; settle 99; compact 0; beat 0;");
        due("NEXT of 2", x.follows(0, 2, 0), 2);
        due("SNAPSHOT", x.store(0, 6), 3);
        due("INSTALL", x.message(1, 2), 4);
        due("its place", x.message(1, 4), 3);
    }

    static void p05_toOtherMembersAloneRising() {
        AgreedLog x = Bounds.led(7, "change 0 25;");
        due("1, 2, 3, 4", x.count(0), 4);
        Bounds.loseAll(x);
        due("both sets", x.beat(0), 4);
        for (int i = 0; i < 4; i++) {
            due("rising", x.message(i, 1), i + 1);
        }
        x = Bounds.led(5);
        due("one other", x.beat(0), 1);
        due("to 2", x.message(0, 1), 2);
    }

    static void p05_byALinkThatIsCutItIsLost_toOneThatIsntUpItWaits() {
        AgreedLog x = Bounds.led(31, "cut 0 1; stop 2;");
        due("three wait", x.beat(0), 3);
        due("one LOST", x.count(1), 1);
        due("it waits", x.first(0, 2, 2), 0);
        due("it couldn't COME", x.message(0, 8), 0);
    }

    static void p05_leaderAtLast120SendsWithoutEntries() {
        AgreedLog x = Bounds.aloneWithLast(99);
        Bounds.play(x, "change 0 3; settle 99;");
        due("JOINT and NEW", x.store(0, 4), 101);
        Bounds.play(x, "times 19 { stop 0; start 0; timeout 0; settle 99; }");
        due("LAST", x.store(0, 4), 120);
        due("one waits", x.beat(0), 1);
        due("BEFORE", x.message(0, 4), 120);
        due("no entries", x.message(0, 6), 0);
        due("AGREED", x.message(0, 7), 120);
    }
}
