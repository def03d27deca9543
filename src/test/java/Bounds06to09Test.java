/** The boundary cases of promises 6 to 9, each sentence of the document in a test of its own. */
public final class Bounds06to09Test {
    private static final int NONE = AgreedLog.NONE;

    private Bounds06to09Test() { }

    private static void due(String what, long got, long want) {
        Bounds.due(what, got, want);
    }

    public static void main(String[] args) {
        Bounds.run(Bounds06to09Test.class, 6, 9);
    }

    /** 0 and 1 have so many entries that LAST is as told; all are AGREED by 0. */
    private static AgreedLog twoWithLast(int last) {
        AgreedLog x = Bounds.led(3);
        while (x.store(0, 4) < last) {
            x.propose(0, 2, 0, 1);
            x.settle(200);
        }
        return x;
    }

    // ---- 6: propose

    static void p06_noSuchStoreIsRefusedByMinus2() {
        for (int wrong : Bounds.NO_STORES) {
            Bounds.refused(() -> Bounds.led(31), x -> x.propose(wrong, 1, 0, 1), -2);
        }
    }

    static void p06_kinds0And3AreRefusedByMinus2() {
        for (int wrong : new int[] {0, 3, 4, -1, Bounds.LOW, Bounds.HIGH}) {
            Bounds.refused(() -> Bounds.led(31), x -> x.propose(0, wrong, 0, 1), -2);
        }
        AgreedLog x = Bounds.led(31);
        due("1", x.propose(0, 1, 0, 1), 2);
        due("SET", x.entry(0, 2, 1), 1);
        due("2", x.propose(0, 2, 0, 1), 3);
        due("ADD", x.entry(0, 3, 1), 2);
    }

    static void p06_cellsMinus1And4AreRefusedByMinus2() {
        for (int wrong : new int[] {-1, 4, Bounds.LOW, Bounds.HIGH}) {
            Bounds.refused(() -> Bounds.led(31), x -> x.propose(0, 1, wrong, 1), -2);
        }
        AgreedLog x = Bounds.led(1);
        due("0", x.propose(0, 1, 0, 5), 2);
        due("3", x.propose(0, 1, 3, 6), 3);
        due("CELL 0", x.cell(0, 0), 5);
        due("CELL 1", x.cell(0, 1), 0);
        due("CELL 3", x.cell(0, 3), 6);
    }

    static void p06_numbersBeyond999AreRefusedByMinus3() {
        for (int wrong : new int[] {-1000, 1000, Bounds.LOW, Bounds.HIGH}) {
            Bounds.refused(() -> Bounds.led(31), x -> x.propose(0, 1, 0, wrong), -3);
            Bounds.refused(() -> Bounds.led(31), x -> x.propose(0, 2, 0, wrong), -3);
        }
    }

    static void p06_numbersFromMinus999To999() {
        AgreedLog x = Bounds.led(1);
        int place = 1;
        for (int v : new int[] {-999, -998, -1, 0, 1, 998, 999}) {
            due("SET " + v, x.propose(0, 1, 2, v), ++place);
            due("its number", x.entry(0, place, 3), v);
            due("done", x.cell(0, 2), v);
        }
    }

    static void p06_whoIsntTheLeaderIsRefusedByMinus5() {
        Bounds.refused(() -> Bounds.led(31), x -> x.propose(1, 1, 0, 1), -5);
        Bounds.refused(() -> Bounds.after(31, "timeout 1;"), x -> x.propose(1, 1, 0, 1), -5);
        Bounds.refused(() -> Bounds.after(31, "careful 1; timeout 1;"), x -> x.propose(1, 1, 0, 1), -5);
        Bounds.refused(() -> Bounds.led(31, "stop 0;"), x -> x.propose(0, 1, 0, 1), -5);
    }

    static void p06_last99Takes_last100And101AreRefusedByMinus4() {
        AgreedLog x = Bounds.aloneWithLast(98);
        due("98", x.propose(0, 1, 0, 1), 99);
        due("99", x.propose(0, 1, 0, 1), 100);
        due("100", x.propose(0, 1, 0, 1), -4);
        due("stays", x.store(0, 4), 100);
        Bounds.refused(() -> Bounds.aloneWithLast(100), y -> y.propose(0, 1, 0, 1), -4);
        Bounds.refused(() -> Bounds.aloneWithLast(101), y -> y.propose(0, 2, 3, -1), -4);
        Bounds.refused(() -> Bounds.aloneWithLast(120), y -> y.propose(0, 2, 3, -1), -4);
    }

    static void p06_last100IsCountedOverASnapshot() {
        Bounds.refused(() -> {
            AgreedLog x = Bounds.aloneWithLast(100);
            x.compact(0);
            return x;
        }, x -> x.propose(0, 1, 0, 1), -4);
        AgreedLog x = Bounds.aloneWithLast(99);
        x.compact(0);
        due("behind the SNAPSHOT", x.propose(0, 1, 1, 7), 100);
        due("done", x.cell(0, 1), 7);
    }

    static void p06_minus2AheadOfMinus3AheadOfMinus5AheadOfMinus4() {
        Bounds.refused(() -> Bounds.led(31), x -> x.propose(5, 1, 0, 1000), -2);
        Bounds.refused(() -> Bounds.led(31), x -> x.propose(0, 0, 0, 1000), -2);
        Bounds.refused(() -> Bounds.led(31), x -> x.propose(0, 1, 4, 1000), -2);
        Bounds.refused(() -> Bounds.led(31), x -> x.propose(1, 3, 0, 1), -2);
        Bounds.refused(() -> Bounds.led(31), x -> x.propose(1, 1, 0, 1000), -3);
        Bounds.refused(() -> Bounds.aloneWithLast(100), x -> x.propose(0, 1, 4, 1), -2);
        Bounds.refused(() -> Bounds.aloneWithLast(100), x -> x.propose(0, 1, 0, 1000), -3);
        Bounds.refused(() -> {
            AgreedLog x = Bounds.aloneWithLast(100);
            Bounds.play(x, "stop 0; start 0;");
            return x;
        }, x -> x.propose(0, 1, 0, 1), -5);
    }

    /** The 99 entries that LAST leaves room for can't bring a CELL to where an int wraps. */
    static void p06_addUpToTheGreatestSums() {
        for (int v : new int[] {999, -999}) {
            AgreedLog x = Bounds.led(1);
            int sum = 0;
            while (x.propose(0, 2, 3, v) > 0) {
                sum += v;
                due("ADD", x.cell(0, 3), sum);
            }
            due("99 times", sum, 99 * v);
        }
    }

    static void p06_setOfOneAgreesAtOnce() {
        AgreedLog x = Bounds.after(16, "timeout 4;");
        due("place", x.propose(4, 1, 1, 3), 2);
        due("AGREED", x.store(4, 8), 2);
        due("done", x.cell(4, 1), 3);
        due("nothing SENT", x.count(0), 0);
        due("FIRST AGREED", x.agreed(2, 3), 3);
    }

    static void p06_setOfTwoNeedsBoth() {
        AgreedLog x = Bounds.led(3, "set 0 0 9;");
        due("one of two", x.store(0, 8), 1);
        Bounds.come(x, 0, 1, 2);
        due("it isn't told yet", x.store(0, 8), 1);
        Bounds.come(x, 1, 0, 3);
        due("two of two", x.store(0, 8), 2);
        due("done", x.cell(0, 0), 9);
        due("not there yet", x.cell(1, 0), 0);
    }

    static void p06_setOfFourNeedsThree() {
        AgreedLog x = Bounds.led(15, "set 0 0 9;");
        Bounds.come(x, 0, 1, 2);
        Bounds.come(x, 1, 0, 3);
        due("two of four", x.store(0, 8), 1);
        Bounds.come(x, 0, 3, 2);
        Bounds.come(x, 3, 0, 3);
        due("three of four", x.store(0, 8), 2);
    }

    static void p06_jointNeedsMoreThanHalfOfEachSet() {
        AgreedLog x = Bounds.led(7, "change 0 24;");
        Bounds.come(x, 0, 1, 2);
        Bounds.come(x, 1, 0, 3);
        due("a MAJORITY of one set", x.store(0, 8), 1);
        Bounds.come(x, 0, 3, 2);
        Bounds.come(x, 3, 0, 3);
        due("and half of the other", x.store(0, 8), 1);
        Bounds.come(x, 0, 4, 2);
        Bounds.come(x, 4, 0, 3);
        due("and all of it", x.store(0, 8), 2);
    }

    static void p06_entriesOfAnOlderTermAreAgreedOnlyWithOneOfItsOwn() {
        AgreedLog x = Bounds.led(7, "cut 0 1; cut 0 2; times 5 { set 0 0 1; } stop 0; start 0; join 0 1; timeout 0;");
        Bounds.come(x, 0, 1, 0);
        Bounds.come(x, 1, 0, 1);
        due("leader", x.leader(), 0);
        due("LAST", x.store(0, 4), 7);
        Bounds.come(x, 0, 1, 2);
        Bounds.come(x, 1, 0, 3);
        Bounds.come(x, 0, 1, 2);
        Bounds.come(x, 1, 0, 3);
        due("HAS", x.follows(0, 1, 1), 4);
        due("of TERM 1", x.entry(0, 4, 0), 1);
        due("a MAJORITY has it", x.safe(0, 4), 1);
        due("not AGREED", x.store(0, 8), 0);
        Bounds.come(x, 0, 1, 2);
        Bounds.come(x, 1, 0, 3);
        due("HAS", x.follows(0, 1, 1), 7);
        due("all AGREED by the one of TERM 2", x.store(0, 8), 7);
    }

    static void p06_sentWhile60Wait_theRestIsLost() {
        for (int waiting = 55; waiting <= 60; waiting++) {
            AgreedLog x = Bounds.led(31);
            Bounds.fillTo(x, 0, waiting);
            due("place", x.propose(0, 1, 0, 1), 2);
            due("wait", x.count(0), Math.min(60, waiting + 4));
            due("LOST", x.count(1), Math.max(0, waiting + 4 - 60));
        }
    }

    static void p06_whatIsSentTellsWhatIsAgreedByThen() {
        AgreedLog x = Bounds.led(7, "set 0 0 1;");
        due("AGREED told", Bounds.latest(x, 7), 1);
        due("the entry is told", Bounds.latest(x, 6), 1);
    }

    // ---- 7: read

    static void p07_noSuchStoreIsRefusedByMinus2() {
        for (int wrong : Bounds.NO_STORES) {
            Bounds.refused(() -> Bounds.led(31), x -> x.read(wrong, 0), -2);
        }
    }

    static void p07_cellsMinus1And4AreRefusedByMinus2() {
        for (int wrong : new int[] {-1, 4, Bounds.LOW, Bounds.HIGH}) {
            Bounds.refused(() -> Bounds.led(31), x -> x.read(0, wrong), -2);
        }
        due("0", Bounds.led(31).read(0, 0), 1);
        due("3", Bounds.led(31).read(0, 3), 1);
    }

    static void p07_whoIsntTheLeaderIsRefusedByMinus5() {
        Bounds.refused(() -> Bounds.led(31), x -> x.read(1, 0), -5);
        Bounds.refused(() -> Bounds.after(31, "timeout 1;"), x -> x.read(1, 0), -5);
        Bounds.refused(() -> Bounds.led(31, "careful 1; timeout 1;"), x -> x.read(1, 0), -5);
        Bounds.refused(() -> Bounds.led(31, "stop 0;"), x -> x.read(0, 0), -5);
    }

    static void p07_whileOneWaitsAnotherIsRefusedByMinus5() {
        Bounds.refused(() -> Bounds.led(31, "read 0 1;"), x -> x.read(0, 1), -5);
        Bounds.refused(() -> Bounds.led(31, "read 0 1;"), x -> x.read(0, 2), -5);
        AgreedLog x = Bounds.led(31, "read 0 1; settle 99;");
        due("answered", x.store(0, 12), 2);
        due("another one", x.read(0, 2), 1);
        due("its CELL", x.store(0, 13), 2);
        due("its ROUND", x.store(0, 15), 2);
    }

    static void p07_nothingAgreedIsRefusedByMinus5() {
        Bounds.refused(() -> Bounds.after(31, "timeout 0; settle 8;"), x -> x.read(0, 0), -5);
        AgreedLog x = Bounds.after(31, "timeout 0; settle 8;");
        due("leader", x.leader(), 0);
        due("AGREED", x.store(0, 8), 0);
    }

    static void p07_agreedOfAnOlderTermIsRefusedByMinus5() {
        Bounds.refused(() -> Bounds.led(31, "beat 0; settle 99; timeout 1; settle 8;"), x -> x.read(1, 0), -5);
        AgreedLog x = Bounds.led(31, "beat 0; settle 99; timeout 1; settle 8;");
        due("leader", x.leader(), 1);
        due("AGREED of TERM 1", x.store(1, 8), 1);
        x.settle(200);
        due("AGREED of TERM 2", x.store(1, 8), 2);
        due("now", x.read(1, 0), 1);
    }

    static void p07_agreedAtTheSnapshotItsTermCounts() {
        AgreedLog x = Bounds.led(31, "compact 0;");
        due("no entry there", x.entry(0, 1, 0), -1000);
        due("of its TERM", x.read(0, 0), 1);
        Bounds.refused(() -> Bounds.led(31, "beat 0; settle 99; compact 1; timeout 1; settle 8;"), y -> y.read(1, 0), -5);
    }

    static void p07_minus2AheadOfMinus5() {
        Bounds.refused(() -> Bounds.led(31), x -> x.read(1, 4), -2);
        Bounds.refused(() -> Bounds.led(31, "read 0 0;"), x -> x.read(0, 4), -2);
    }

    static void p07_setOfOneIsAnsweredAtOnce() {
        AgreedLog x = Bounds.led(1, "set 0 3 -999;");
        due("2", x.read(0, 3), 2);
        due("READ", x.store(0, 12), 2);
        due("its CELL", x.store(0, 13), 3);
        due("its number", x.store(0, 14), -999);
        due("ROUND", x.store(0, 15), 1);
        due("it doesn't wait", x.store(0, 16), 0);
        due("again", x.read(0, 0), 2);
        due("ROUND", x.store(0, 15), 2);
    }

    static void p07_setOfTwoNeedsBoth() {
        AgreedLog x = Bounds.led(3);
        due("it waits", x.read(0, 0), 1);
        due("heard", x.store(0, 16), 1);
        x.settle(2);
        due("answered", x.store(0, 12), 2);
    }

    static void p07_setOfFourNeedsThree() {
        AgreedLog x = Bounds.led(15, "read 0 0;");
        Bounds.come(x, 0, 3, 2);
        Bounds.come(x, 3, 0, 3);
        due("two of four", x.store(0, 12), 1);
        due("heard", x.store(0, 16), 9);
        Bounds.come(x, 0, 1, 2);
        Bounds.come(x, 1, 0, 3);
        due("three of four", x.store(0, 12), 2);
    }

    static void p07_jointNeedsMoreThanHalfOfEachSet() {
        AgreedLog x = Bounds.led(3, "change 0 28; read 0 0;");
        due("1 of {0, 1}, 0 of {2, 3, 4}", x.store(0, 12), 1);
        int lastOfRound = x.count(0) - 4;
        due("the ROUND", x.message(lastOfRound, 9), 1);
        for (int t : new int[] {1, 2}) {
            hear(x, t);
        }
        due("heard", x.store(0, 16), 7);
        due("both of one, 1 of 3 of the other", x.store(0, 12), 1);
        hear(x, 3);
        due("2 of 3 of the other", x.store(0, 12), 2);
    }

    /** What 0 sent to one with its latest ROUND comes, and the answer. */
    private static void hear(AgreedLog x, int t) {
        for (int i = x.count(0) - 1; i >= 0; i--) {
            if (x.message(i, 1) == t && x.message(i, 9) == x.store(0, 15)) {
                x.come(i);
                x.come(x.count(0) - 1);
                return;
            }
        }
        due("one waits for " + t, 0, 1);
    }

    static void p07_leaderThatIsntInItsSetIsNoMajority() {
        AgreedLog x = Bounds.led(1, "change 0 2; come 0; come 0;");
        due("one set, of another", x.store(0, 9), 2);
        due("leader still", x.store(0, 3), 2);
        due("it waits", x.read(0, 0), 1);
        due("heard: it itself", x.store(0, 16), 1);
        hear(x, 1);
        due("answered", x.store(0, 12), 2);
    }

    static void p07_anOlderRoundIsntHeard_thatOfTheReadIs() {
        AgreedLog x = Bounds.led(31, "beat 0; read 0 0;");
        due("ROUND 0", x.message(0, 9), 0);
        due("ROUND 1", x.message(4, 9), 1);
        x.come(0);
        due("TOOK with ROUND 0", Bounds.latest(x, 9), 0);
        x.come(x.count(0) - 1);
        due("not heard", x.store(0, 16), 1);
        x.come(x.first(0, 1, 2));
        due("TOOK with ROUND 1", Bounds.latest(x, 9), 1);
        x.come(x.count(0) - 1);
        due("heard", x.store(0, 16), 3);
    }

    static void p07_installedOfAnOlderRoundIsntHeard() {
        AgreedLog x = Bounds.after(7, "cut 0 2; timeout 0; settle 99; set 0 0 1; settle 99; compact 0; join 0 2; beat 0;");
        Bounds.come(x, 0, 2, 4);
        due("INSTALLED with ROUND 0", Bounds.latest(x, 9), 0);
        due("it waits", x.read(0, 0), 1);
        Bounds.come(x, 2, 0, 5);
        due("not heard", x.store(0, 16), 1);
        due("it waits still", x.store(0, 12), 1);
    }

    static void p07_whoIsHeardTwiceCountsOnce() {
        AgreedLog x = Bounds.led(31, "read 0 0; come 0; twice 3; come 3; come 3;");
        due("heard", x.store(0, 16), 3);
        due("it waits", x.store(0, 12), 1);
    }

    static void p07_theNumberInItsCellNow() {
        AgreedLog x = Bounds.led(31, "set 0 0 5; read 0 0;");
        due("not done yet", x.cell(0, 0), 0);
        // The answers to SET come first, and are AGREED ahead of the READ's.
        x.settle(200);
        due("now", x.store(0, 14), 5);
        x = Bounds.led(31, "read 0 0; set 0 0 5;");
        hearRound(x, 1);
        hearRound(x, 2);
        due("answered ahead of all that TOOK tells", x.store(0, 14), 0);
        due("answered", x.store(0, 12), 2);
    }

    private static void hearRound(AgreedLog x, int t) {
        x.come(x.first(0, t, 2));
        x.come(x.count(0) - 1);
    }

    static void p07_sentWhile60Wait_itWaitsAllTheSame() {
        AgreedLog x = Bounds.led(31);
        Bounds.fillTo(x, 0, 60);
        due("it waits", x.read(0, 0), 1);
        due("ROUND", x.store(0, 15), 1);
        due("all LOST", x.count(1), 4);
        x.settle(200);
        due("nobody was heard for it", x.store(0, 16), 1);
        x.beat(0);
        x.settle(200);
        due("the next ones have its ROUND", x.store(0, 12), 2);
    }

    static void p07_oneThatWaitsIsGoneWithTheRole_anAnsweredOneStays() {
        AgreedLog x = Bounds.led(31, "read 0 1; timeout 1;");
        Bounds.come(x, 1, 0, 0);
        due("ROLE 0", x.store(0, 3), 0);
        due("READ 0", x.store(0, 12), 0);
        due("no CELL", x.store(0, 13), NONE);
        due("nobody", x.store(0, 16), 0);
        due("ROUND stays", x.store(0, 15), 1);
        x = Bounds.led(31, "read 0 1; settle 99; timeout 1;");
        Bounds.come(x, 1, 0, 0);
        due("ROLE 0", x.store(0, 3), 0);
        due("answered", x.store(0, 12), 2);
        due("its CELL", x.store(0, 13), 1);
        x.stop(0);
        due("STOP: 0", x.store(0, 12), 0);
        due("no CELL", x.store(0, 13), NONE);
    }

    // ---- 8: hand

    static void p08_noSuchStoreIsRefusedByMinus2() {
        for (int wrong : Bounds.NO_STORES) {
            Bounds.refused(() -> Bounds.led(31), x -> x.hand(wrong, 1), -2);
            Bounds.refused(() -> Bounds.led(31), x -> x.hand(0, wrong), -2);
            Bounds.refused(() -> Bounds.led(31), x -> x.hand(wrong, wrong), -2);
        }
    }

    static void p08_theyAreOneIsRefusedByMinus3_aheadOfMinus5() {
        Bounds.refused(() -> Bounds.led(31), x -> x.hand(0, 0), -3);
        Bounds.refused(() -> Bounds.led(31), x -> x.hand(1, 1), -3);
    }

    static void p08_whoIsntTheLeaderIsRefusedByMinus5() {
        Bounds.refused(() -> Bounds.led(31), x -> x.hand(1, 0), -5);
        Bounds.refused(() -> Bounds.after(31, "timeout 1;"), x -> x.hand(1, 0), -5);
        Bounds.refused(() -> Bounds.after(31, "careful 1; timeout 1;"), x -> x.hand(1, 0), -5);
        Bounds.refused(() -> Bounds.led(31, "stop 0;"), x -> x.hand(0, 1), -5);
    }

    static void p08_noMemberIsRefusedByMinus5() {
        Bounds.refused(() -> Bounds.led(7), x -> x.hand(0, 3), -5);
        due("the last MEMBER", Bounds.led(7).hand(0, 2), 1);
    }

    static void p08_oneThatWasAMemberIsRefusedByMinus5() {
        Bounds.refused(() -> Bounds.led(7, "change 0 3; settle 99;"), x -> x.hand(0, 2), -5);
        due("one that is", Bounds.led(7, "change 0 3; settle 99;").hand(0, 1), 1);
    }

    static void p08_hasOneBelowLastIsRefusedByMinus5() {
        Bounds.refused(() -> Bounds.led(31, "set 0 0 1;"), x -> x.hand(0, 1), -5);
        AgreedLog x = Bounds.led(31, "set 0 0 1; come 0; come 3;");
        due("HAS is LAST", x.follows(0, 1, 1), 2);
        due("to it", x.hand(0, 1), 4);
        due("to another one", x.hand(0, 2), -5);
    }

    static void p08_memberOfTheSecondSetOfJoint() {
        AgreedLog x = Bounds.led(1, "change 0 6; come 0; come 1;");
        due("JOINT", x.store(0, 10), 6);
        due("HAS is LAST", x.follows(0, 1, 1), 2);
        due("to it", x.hand(0, 1), 2);
        due("NOW", Bounds.latest(x, 2), 6);
    }

    static void p08_howManyWait_60AtMost() {
        for (int waiting = 58; waiting <= 60; waiting++) {
            AgreedLog x = Bounds.led(31);
            Bounds.fillTo(x, 0, waiting);
            due("from " + waiting, x.hand(0, 1), Math.min(60, waiting + 1));
            due("LOST, from " + waiting, x.count(1), waiting == 60 ? 1 : 0);
        }
    }

    static void p08_byALinkThatIsCutItIsLost_toOneThatIsntUpItWaits() {
        AgreedLog x = Bounds.led(31, "cut 0 1; stop 2;");
        due("LOST", x.hand(0, 1), 0);
        due("one", x.count(1), 1);
        due("waits", x.hand(0, 2), 1);
    }

    static void p08_itIsTheLeaderStill() {
        AgreedLog x = Bounds.led(31, "hand 0 4;");
        due("leader", x.leader(), 0);
        due("it can propose", x.propose(0, 1, 0, 1), 2);
        due("again", x.hand(0, 4), -5);
    }

    // ---- 9: change

    static void p09_noSuchStoreIsRefusedByMinus2() {
        for (int wrong : Bounds.NO_STORES) {
            Bounds.refused(() -> Bounds.led(31), x -> x.change(wrong, 1), -2);
            Bounds.refused(() -> Bounds.led(31), x -> x.change(wrong, 0), -2);
        }
    }

    static void p09_sets0And32AreRefusedByMinus3_aheadOfMinus5() {
        for (int wrong : new int[] {0, 32, -1, Bounds.LOW, Bounds.HIGH}) {
            Bounds.refused(() -> Bounds.led(7), x -> x.change(0, wrong), -3);
            Bounds.refused(() -> Bounds.led(7), x -> x.change(1, wrong), -3);
            Bounds.refused(() -> Bounds.led(7, "change 0 3;"), x -> x.change(0, wrong), -3);
        }
    }

    static void p09_sets1To31() {
        for (int set = 1; set <= 31; set++) {
            AgreedLog x = Bounds.led(7);
            due("set " + set, x.change(0, set), set == 7 ? -5 : 2);
            if (set != 7) {
                due("JOINT", x.entry(0, 2, 1), 3);
                due("the first set", x.entry(0, 2, 2), 7);
                due("the second set", x.entry(0, 2, 3), set);
                due("MEMBERS", x.store(0, 9), 7);
                due("MEMBERS", x.store(0, 10), set);
            }
        }
    }

    static void p09_whoIsntTheLeaderIsRefusedByMinus5() {
        Bounds.refused(() -> Bounds.led(31), x -> x.change(1, 3), -5);
        Bounds.refused(() -> Bounds.after(31, "timeout 1;"), x -> x.change(1, 3), -5);
        Bounds.refused(() -> Bounds.after(31, "careful 1; timeout 1;"), x -> x.change(1, 3), -5);
        Bounds.refused(() -> Bounds.led(31, "stop 0;"), x -> x.change(0, 3), -5);
    }

    static void p09_jointMembersAreRefusedByMinus5() {
        Bounds.refused(() -> Bounds.led(7, "change 0 3;"), x -> x.change(0, 31), -5);
        Bounds.refused(() -> Bounds.led(7, "change 0 3;"), x -> x.change(0, 7), -5);
        Bounds.refused(() -> Bounds.led(7, "change 0 3;"), x -> x.change(0, 3), -5);
    }

    static void p09_membersByAnEntryThatIsntAgreedAreRefusedByMinus5() {
        AgreedLog x = newNotAgreed();
        due("one set", x.store(0, 10), 0);
        due("by NEW at 3", x.entry(0, 3, 1), 4);
        due("AGREED", x.store(0, 8), 2);
        Bounds.refused(Bounds06to09Test::newNotAgreed, y -> y.change(0, 31), -5);
        x.settle(200);
        due("AGREED", x.store(0, 8), 3);
        due("now", x.change(0, 31), 4);
    }

    private static AgreedLog newNotAgreed() {
        AgreedLog x = Bounds.led(7, "change 0 15;");
        for (int i = 0; i < 60 && x.store(0, 10) != 0; i++) {
            x.come(0);
        }
        return x;
    }

    static void p09_thoseToldAreRefusedByMinus5() {
        Bounds.refused(() -> Bounds.led(7), x -> x.change(0, 7), -5);
        Bounds.refused(() -> Bounds.led(7, "change 0 3; settle 99;"), x -> x.change(0, 3), -5);
        due("the first ones again", Bounds.led(7, "change 0 3; settle 99;").change(0, 7), 4);
    }

    static void p09_membersByTheFirstSet_whileNothingIsAgreed() {
        AgreedLog x = Bounds.after(3, "timeout 0; come 0; come 0;");
        due("AGREED", x.store(0, 8), 0);
        due("place", x.change(0, 7), 2);
    }

    static void p09_membersByASnapshot() {
        AgreedLog x = Bounds.led(7, "change 0 3; settle 99; compact 0;");
        due("MEMBERS", x.store(0, 9), 3);
        due("those told", x.change(0, 3), -5);
        due("others", x.change(0, 7), 4);
        due("the first set", x.entry(0, 4, 2), 3);
    }

    static void p09_last99Takes_last100IsRefusedByMinus4() {
        due("99", Bounds.aloneWithLast(99).change(0, 3), 100);
        Bounds.refused(() -> Bounds.aloneWithLast(100), x -> x.change(0, 3), -4);
        Bounds.refused(() -> Bounds.aloneWithLast(101), x -> x.change(0, 3), -4);
        Bounds.refused(() -> Bounds.aloneWithLast(120), x -> x.change(0, 3), -4);
    }

    static void p09_minus3AndMinus5AheadOfMinus4() {
        Bounds.refused(() -> Bounds.aloneWithLast(100), x -> x.change(0, 0), -3);
        Bounds.refused(() -> Bounds.aloneWithLast(100), x -> x.change(0, 1), -5);
        Bounds.refused(() -> twoWithLast(100), x -> x.change(1, 1), -5);
    }

    static void p09_newComesBehindLast100Too() {
        AgreedLog x = Bounds.aloneWithLast(99);
        due("JOINT", x.change(0, 3), 100);
        x.settle(200);
        due("NEW", x.entry(0, 101, 1), 4);
        due("its set", x.entry(0, 101, 2), 3);
        due("AGREED", x.store(0, 8), 101);
    }

    /** JOINT lies at 100, and each election that 1 votes in brings one entry that 1 isn't told of. */
    private static AgreedLog jointWithLast(int last) {
        AgreedLog x = Bounds.aloneWithLast(99);
        Bounds.play(x, "change 0 3; lose 0;");
        while (x.store(0, 4) < last) {
            Bounds.play(x, "stop 0; start 0; timeout 0; come 0; come 0; lose 0;");
        }
        x.beat(0);
        for (int i = 0; i < 500 && x.count(0) > 0; i++) {
            x.come(0);
        }
        return x;
    }

    static void p09_newComesAtLast119_at120ItDoesnt() {
        AgreedLog x = jointWithLast(119);
        due("NEW", x.entry(0, 120, 1), 4);
        due("one set", x.store(0, 10), 0);
        due("MEMBERS", x.store(0, 9), 3);
        due("AGREED", x.store(0, 8), 120);
        x = jointWithLast(120);
        due("LAST", x.store(0, 4), 120);
        due("AGREED", x.store(0, 8), 120);
        due("JOINT still", x.store(0, 10), 3);
        due("JOINT", x.change(0, 7), -5);
        due("it goes on", x.beat(0), 1);
        due("TAKE, TOOK and no more", x.settle(200), 2);
    }

    static void p09_whoIsntInTheSecondSetLeadsUntilNewIsAgreed() {
        AgreedLog x = Bounds.led(7, "change 0 6;");
        Bounds.come(x, 0, 1, 2);
        Bounds.come(x, 1, 0, 3);
        due("JOINT isn't AGREED: 1 of {1, 2}", x.store(0, 8), 1);
        Bounds.come(x, 0, 2, 2);
        Bounds.come(x, 2, 0, 3);
        due("JOINT is AGREED", x.store(0, 8), 2);
        due("NEW", x.store(0, 9), 6);
        due("leader", x.store(0, 3), 2);
        Bounds.come(x, 0, 1, 2);
        Bounds.come(x, 1, 0, 3);
        due("NEW isn't AGREED: it itself doesn't count", x.store(0, 8), 2);
        due("leader", x.store(0, 3), 2);
        Bounds.come(x, 0, 2, 2);
        Bounds.come(x, 2, 0, 3);
        due("NEW is AGREED", x.store(0, 8), 3);
        due("ROLE 0", x.store(0, 3), 0);
    }

    static void p09_setOfOneToThatAndAnother_setOfTwoToOne() {
        AgreedLog x = Bounds.led(1);
        due("JOINT", x.change(0, 3), 2);
        due("not AGREED by itself alone", x.store(0, 8), 1);
        x.settle(200);
        due("NEW", x.store(0, 9), 3);
        due("back", x.change(0, 1), 4);
        x.settle(1);
        x.settle(1);
        due("JOINT and NEW are AGREED, NEW by itself alone", x.store(0, 8), 5);
        due("MEMBERS", x.store(0, 9), 1);
        due("leader", x.store(0, 3), 2);
    }

    static void p09_sentToBothSets_whatIsBeyond60IsLost() {
        AgreedLog x = Bounds.led(7);
        while (x.count(0) + 2 <= 58) {
            x.beat(0);
        }
        due("58 wait", x.count(0), 58);
        due("place", x.change(0, 31), 2);
        due("60 wait", x.count(0), 60);
        due("two LOST", x.count(1), 2);
        due("to 2 the last", Bounds.latest(x, 1), 2);
    }

    /** 0 had JOINT at place 2, which another entry took over; 0 leads again and has AGREED place 1 alone. */
    static void p09_membersByTheFirstSetAgain_aboveAgreedNothingToldThem() {
        AgreedLog x = Bounds.led(31, "cut 0 1; cut 0 2; cut 0 3; cut 0 4; change 0 7; timeout 1; join 0 1; join 0 2; join 0 3;");
        for (int t = 2; t <= 3; t++) {
            Bounds.come(x, 1, t, 0);
            Bounds.come(x, t, 1, 1);
        }
        Bounds.come(x, 1, 0, 2);
        Bounds.loseAll(x);
        x.timeout(0);
        for (int t = 2; t <= 3; t++) {
            Bounds.come(x, 0, t, 0);
            Bounds.come(x, t, 0, 1);
        }
        due("leader", x.store(0, 3), 2);
        due("AGREED", x.store(0, 8), 1);
        due("another entry at 2", x.entry(0, 2, 0), 2);
        due("not refused", x.change(0, 7), 4);
    }

    static void p09_entriesOverwrittenTakeTheirMembersWithThem() {
        AgreedLog x = Bounds.led(7, "cut 0 1; cut 0 2; change 0 1;");
        due("JOINT, AGREED or not", x.store(0, 10), 1);
        Bounds.play(x, "timeout 1; settle 99; join 0 1; beat 1; settle 99;");
        due("another entry there", x.entry(0, 2, 0), 2);
        due("MEMBERS by the first set", x.store(0, 9), 7);
        due("one set", x.store(0, 10), 0);
    }

    /** JOINT at 2 and NEW at 3 are in the LOG of 1, AGREED; what stands behind them goes. */
    static void p09_membersByTheLastOfSeveralEntries_whereLaterEntriesGo() {
        AgreedLog x = Bounds.led(15, "change 0 7; settle 99; beat 0; settle 99;");
        due("LAST", x.store(1, 4), 3);
        due("AGREED", x.store(1, 8), 3);
        Bounds.play(x, "timeout 1;");
        Bounds.come(x, 1, 2, 0);
        Bounds.come(x, 2, 1, 1);
        Bounds.loseAll(x);
        due("an entry that goes", x.propose(1, 1, 0, 5), 5);
        Bounds.loseAll(x);
        Bounds.play(x, "timeout 2; settle 99;");
        due("TERM at 4", x.entry(1, 4, 0), 3);
        due("LAST", x.store(1, 4), 4);
        due("MEMBERS by NEW", x.store(1, 9), 7);
        due("one set", x.store(1, 10), 0);
    }

    /** 0 leads with 119 entries, JOINT (7 and 14) at place 3; 1 and 2 have two of them, 3 has none. */
    private static AgreedLog jointLongAgo() {
        AgreedLog x = Bounds.led(7, "set 0 0 1; settle 99; change 0 14; lose 0; lose 0; lose 0;",
            "times 2 { times 48 { add 0 0 1; lose 0; lose 0; lose 0; } }");
        while (x.store(0, 4) < 119) {
            Bounds.play(x, "stop 0; start 0; timeout 0;");
            for (int t = 1; t <= 2; t++) {
                Bounds.come(x, 0, t, 0);
                Bounds.come(x, t, 0, 1);
            }
            Bounds.loseAll(x);
        }
        due("JOINT isn't AGREED", x.store(0, 8), 0);
        return x;
    }

    /** Only messages between the leader 0 and t come, till t has so many entries. */
    private static void catchUp(AgreedLog x, int t, int last) {
        x.beat(0);
        for (int other = 1; other <= 3; other++) {
            if (other != t) {
                Bounds.lose(x, 0, other, 2);
            }
        }
        for (int i = 0; i < 200 && x.store(t, 4) < last; i++) {
            x.come(0);
        }
        due("LAST", x.store(t, 4), last);
        Bounds.come(x, t, 0, 3);
    }

    /** 2 has JOINT AGREED at 119 without NEW behind it; it is elected, and its own entry is the 120th. */
    static AgreedLog jointAgreedWithoutRoom() {
        AgreedLog x = jointLongAgo();
        catchUp(x, 1, 119);
        catchUp(x, 2, 116);
        Bounds.loseAll(x);
        catchUp(x, 3, 119);
        due("AGREED by 0", x.store(0, 8), 119);
        due("NEW by 0", x.entry(0, 120, 1), 4);
        Bounds.come(x, 0, 2, 2);
        due("LAST", x.store(2, 4), 119);
        due("AGREED by 2", x.store(2, 8), 119);
        due("JOINT by 2", x.store(2, 10), 14);
        Bounds.loseAll(x);
        x.timeout(2);
        Bounds.come(x, 2, 1, 0);
        Bounds.loseAllBut(x, 1, 2, 1);
        Bounds.come(x, 1, 2, 1);
        due("leader", x.leader(), 2);
        return x;
    }

    static void p09_jointAgreedAndAnEntryAt120ThatIsnt_nothingMoreIsSent() {
        AgreedLog x = jointAgreedWithoutRoom();
        due("LAST", x.store(2, 4), 120);
        due("AGREED", x.store(2, 8), 119);
        due("JOINT still", x.store(2, 10), 14);
        due("TAKE to 0, 1, 3, once", x.count(0), 3);
    }

    static void p09_membersByJointAgain_whereNewGoes() {
        AgreedLog x = jointAgreedWithoutRoom();
        due("MEMBERS by NEW", x.store(0, 9), 14);
        due("one set", x.store(0, 10), 0);
        Bounds.come(x, 2, 0, 2);
        due("another entry there", x.entry(0, 120, 1), 0);
        due("MEMBERS by JOINT", x.store(0, 9), 7);
        due("the second set", x.store(0, 10), 14);
    }
}
