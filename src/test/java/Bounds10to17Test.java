/** The boundary cases of promises 10 to 17; what a message does as it COMES is in BoundsComesTest. */
public final class Bounds10to17Test {
    private static final int NONE = AgreedLog.NONE;

    private Bounds10to17Test() { }

    private static void due(String what, long got, long want) {
        Bounds.due(what, got, want);
    }

    public static void main(String[] args) {
        Bounds.run(Bounds10to17Test.class, 10, 17);
    }

    // ---- 10: compact

    static void p10_noSuchStoreIsRefusedByMinus2() {
        for (int wrong : Bounds.NO_STORES) {
            Bounds.refused(() -> Bounds.led(31), x -> x.compact(wrong), -2);
        }
        due("4", Bounds.after(16, "timeout 4;").compact(4), 1);
    }

    static void p10_oneThatIsntUpIsRefusedByMinus5() {
        Bounds.refused(() -> Bounds.led(31, "beat 0; settle 99; stop 1;"), x -> x.compact(1), -5);
        Bounds.refused(() -> Bounds.led(31, "compact 0; set 0 0 1; settle 99; stop 0;"), x -> x.compact(0), -5);
    }

    static void p10_noneWouldGoIsRefusedByMinus5() {
        Bounds.refused(AgreedLog::new, x -> x.compact(0), -5);
        Bounds.refused(() -> Bounds.led(31), x -> x.compact(1), -5);
        Bounds.refused(() -> Bounds.led(31, "compact 0;"), x -> x.compact(0), -5);
        Bounds.refused(() -> Bounds.led(31, "compact 0; set 0 0 1;"), x -> x.compact(0), -5);
        Bounds.refused(() -> Bounds.led(31, "compact 0; stop 0; start 0;"), x -> x.compact(0), -5);
    }

    static void p10_oneGoes_ofThoseThatAreAgreed() {
        AgreedLog x = Bounds.led(31, "set 0 1 8;");
        due("one", x.compact(0), 1);
        due("its place", x.store(0, 6), 1);
        due("the TERM there", x.store(0, 7), 1);
        due("the entry at it is gone", x.entry(0, 1, 0), -1000);
        due("the one behind isn't", x.entry(0, 2, 3), 8);
        due("LAST", x.store(0, 4), 2);
    }

    static void p10_allGo() {
        AgreedLog x = Bounds.aloneWithLast(120);
        due("120", x.compact(0), 120);
        due("its place", x.store(0, 6), 120);
        due("LAST", x.store(0, 4), 120);
        due("the TERM at LAST", x.store(0, 5), 21);
        due("none is left", x.entry(0, 120, 0), -1000);
        due("CELLS stay", x.cell(0, 0), 99);
    }

    static void p10_aFollowerCanToo() {
        AgreedLog x = Bounds.led(31, "set 0 1 8; settle 99; beat 0; settle 99;");
        due("both", x.compact(3), 2);
        due("CELLS", x.cell(3, 1), 8);
        due("ROLE", x.store(3, 3), 0);
    }

    static void p10_theSnapshotTellsTheMembersAtItsPlace_notLaterOnes() {
        AgreedLog x = Bounds.led(7, "change 0 15; compact 0; lose 0; lose 0; lose 0; beat 0;");
        due("MEMBERS by the LOG", x.store(0, 10), 15);
        Bounds.come(x, 0, 3, 4);
        due("told by the SNAPSHOT", x.store(3, 9), 7);
        due("one set", x.store(3, 10), 0);
        Bounds.come(x, 3, 0, 5);
        Bounds.come(x, 0, 3, 2);
        due("told by JOINT behind it", x.store(3, 10), 15);
    }

    static void p10_aSnapshotAtJointTellsBothSets() {
        AgreedLog x = Bounds.led(3, "change 0 7; come 0; come 1;");
        due("JOINT is AGREED", x.store(0, 8), 2);
        due("two", x.compact(0), 2);
        Bounds.lose(x, 0, 2, 2);
        x.beat(0);
        while (x.first(0, 2, 2) != NONE) {
            Bounds.lose(x, 0, 2, 2);
        }
        Bounds.come(x, 0, 2, 4);
        due("the first set", x.store(2, 9), 3);
        due("the second set", x.store(2, 10), 7);
    }

    // ---- 11: stop

    static void p11_noSuchStoreIsRefusedByMinus2() {
        for (int wrong : Bounds.NO_STORES) {
            Bounds.refused(() -> Bounds.led(31), x -> x.stop(wrong), -2);
        }
        due("4", new AgreedLog().stop(4), 0);
    }

    static void p11_oneThatIsntUpIsRefusedByMinus5() {
        Bounds.refused(() -> Bounds.led(31, "stop 0;"), x -> x.stop(0), -5);
        Bounds.refused(() -> Bounds.led(31, "stop 0; stop 1; stop 2; stop 3; stop 4;"), x -> x.stop(4), -5);
    }

    static void p11_theRoleItHad() {
        due("0", Bounds.led(31).stop(1), 0);
        due("1", Bounds.after(31, "timeout 1;").stop(1), 1);
        due("2", Bounds.led(31).stop(0), 2);
        due("3", Bounds.after(31, "careful 1; timeout 1;").stop(1), 3);
    }

    static void p11_withoutASnapshotAgreedIs0AndCellsAre0() {
        AgreedLog x = Bounds.led(31, "set 0 1 8; settle 99;");
        x.stop(0);
        due("not UP", x.store(0, 0), 0);
        due("AGREED", x.store(0, 8), 0);
        due("CELL", x.cell(0, 1), 0);
        due("TERM stays", x.store(0, 1), 1);
        due("VOTED stays", x.store(0, 2), 0);
        due("LOG stays", x.store(0, 4), 2);
        due("ROLE", x.store(0, 3), 0);
        due("FIRST AGREED stays", x.agreed(2, 3), 8);
        due("LEADERS stay", x.leaders(1), 1);
    }

    static void p11_withASnapshotAgreedAndCellsAreAsThere() {
        AgreedLog x = Bounds.led(31, "set 0 1 8; settle 99; compact 0; set 0 1 9; settle 99;");
        due("AGREED", x.store(0, 8), 3);
        due("CELL", x.cell(0, 1), 9);
        x.stop(0);
        due("the SNAPSHOT's place", x.store(0, 8), 2);
        due("as there", x.cell(0, 1), 8);
        due("SNAPSHOT stays", x.store(0, 6), 2);
        due("LOG stays", x.entry(0, 3, 3), 9);
    }

    static void p11_votesAndReadsAreGone() {
        AgreedLog x = Bounds.after(31, "timeout 0; stop 0;");
        due("votes", x.store(0, 11), 0);
        x = Bounds.led(31, "read 0 1; stop 0;");
        due("one that waits", x.store(0, 12), 0);
        x = Bounds.led(31, "set 0 1 5; settle 99; read 0 1; settle 99; stop 0;");
        due("an answered one", x.store(0, 12), 0);
        due("no CELL", x.store(0, 13), NONE);
        due("no number", x.store(0, 14), 0);
    }

    static void p11_theLastOneUp() {
        AgreedLog x = Bounds.after(31, "stop 0; stop 1; stop 2; stop 3;");
        due("UP", x.count(3), 16);
        due("ROLE", x.stop(4), 0);
        due("none", x.count(3), 0);
    }

    static void p11_messagesToAndFromItWait() {
        AgreedLog x = Bounds.after(31, "timeout 0; come 0; stop 0; stop 1;");
        due("wait", x.count(0), 4);
        due("none LOST", x.count(1), 0);
        due("from one that isn't UP it can COME", x.message(0, 8), 1);
        due("to one that isn't it can't", x.message(3, 8), 0);
    }

    // ---- 12: start

    static void p12_noSuchStoreIsRefusedByMinus2() {
        for (int wrong : Bounds.NO_STORES) {
            Bounds.refused(() -> Bounds.led(31, "stop 1;"), x -> x.start(wrong), -2);
        }
    }

    static void p12_oneThatIsUpIsRefusedByMinus5() {
        Bounds.refused(AgreedLog::new, x -> x.start(0), -5);
        Bounds.refused(() -> Bounds.led(31, "stop 1; start 1;"), x -> x.start(1), -5);
        Bounds.refused(() -> Bounds.led(31), x -> x.start(0), -5);
    }

    static void p12_last0OfALogWithoutEntries() {
        AgreedLog x = Bounds.after(31, "stop 4;");
        due("LAST", x.start(4), 0);
        due("UP", x.count(3), 31);
    }

    static void p12_lastOfALogThatIsASnapshotAlone() {
        AgreedLog x = Bounds.led(31, "set 0 0 5; settle 99; compact 0; stop 0;");
        due("LAST", x.start(0), 2);
        due("AGREED", x.store(0, 8), 2);
        due("CELL", x.cell(0, 0), 5);
        due("ROLE", x.store(0, 3), 0);
    }

    static void p12_last120() {
        AgreedLog x = Bounds.aloneWithLast(120);
        x.stop(0);
        due("LAST", x.start(0), 120);
    }

    static void p12_itComesBackWithWhatItHad() {
        AgreedLog x = Bounds.after(31, "timeout 0; come 0; stop 1; start 1;");
        due("TERM", x.store(1, 1), 1);
        due("VOTED", x.store(1, 2), 0);
        due("another one of this TERM", x.timeout(2), 1);
        Bounds.come(x, 2, 1, 0);
        due("isn't granted", Bounds.latest(x, 4), 0);
    }

    // ---- 13: link

    static void p13_noSuchStoreIsRefusedByMinus2_aheadOfMinus3() {
        for (int wrong : Bounds.NO_STORES) {
            Bounds.refused(AgreedLog::new, x -> x.link(wrong, 0, 0), -2);
            Bounds.refused(AgreedLog::new, x -> x.link(0, wrong, 0), -2);
            Bounds.refused(AgreedLog::new, x -> x.link(wrong, wrong, 0), -2);
            Bounds.refused(AgreedLog::new, x -> x.link(0, wrong, 2), -2);
        }
    }

    static void p13_howMinus1And2AreRefusedByMinus3() {
        for (int wrong : new int[] {-1, 2, Bounds.LOW, Bounds.HIGH}) {
            Bounds.refused(AgreedLog::new, x -> x.link(0, 1, wrong), -3);
            Bounds.refused(() -> Bounds.after(31, "cut 0 1;"), x -> x.link(0, 1, wrong), -3);
        }
    }

    static void p13_theyAreOneIsRefusedByMinus3() {
        for (int s = 0; s < 5; s++) {
            int one = s;
            Bounds.refused(AgreedLog::new, x -> x.link(one, one, 0), -3);
            Bounds.refused(AgreedLog::new, x -> x.link(one, one, 1), -3);
        }
    }

    static void p13_1IfThatIsAnotherThingElse0_bothWays() {
        for (int a = 0; a < 5; a++) {
            for (int b = 0; b < 5; b++) {
                if (a != b) {
                    AgreedLog x = new AgreedLog();
                    due("there already", x.link(a, b, 1), 0);
                    due("cut", x.link(a, b, 0), 1);
                    due("cut the other way, too", x.link(b, a, 0), 0);
                    due("not linked", x.linked(b, a), 0);
                    due("there again", x.link(b, a, 1), 1);
                    due("both ways", x.link(a, b, 1), 0);
                    due("linked", x.linked(a, b), 1);
                }
            }
        }
    }

    static void p13_onlyThatLinkIsCut() {
        AgreedLog x = Bounds.after(31, "cut 1 3;");
        for (int a = 0; a < 5; a++) {
            for (int b = 0; b < 5; b++) {
                if (a != b) {
                    due("linked", x.linked(a, b), a + b == 4 && a * b == 3 ? 0 : 1);
                }
            }
        }
    }

    static void p13_alsoIfNothingChangesItCanBeUndone() {
        AgreedLog x = new AgreedLog();
        x.link(0, 1, 1);
        due("one call", x.count(7), 1);
    }

    static void p13_whatWaitsWaits_whatIsSentIsLost() {
        AgreedLog x = Bounds.after(3, "timeout 0; cut 0 1;");
        due("waits", x.count(0), 1);
        due("not LOST", x.count(1), 0);
        due("it couldn't COME", x.message(0, 8), 0);
        due("SENT", x.timeout(0), 2);
        due("LOST at once", x.count(1), 1);
        due("there again", x.link(0, 1, 1), 1);
        due("it could COME", x.message(0, 8), 1);
    }

    // ---- 14: come

    static void p14_noSuchMessageIsRefusedByMinus2() {
        Bounds.refused(AgreedLog::new, x -> x.come(0), -2);
        for (int wrong : new int[] {-1, 4, Bounds.LOW, Bounds.HIGH}) {
            Bounds.refused(() -> Bounds.after(31, "timeout 0;"), x -> x.come(wrong), -2);
        }
        Bounds.refused(() -> full60(), x -> x.come(60), -2);
    }

    private static AgreedLog full60() {
        AgreedLog x = Bounds.led(31);
        Bounds.fillTo(x, 0, 60);
        return x;
    }

    static void p14_theFirstAndTheLast() {
        AgreedLog x = Bounds.after(31, "timeout 0;");
        due("the last", x.come(3), 1);
        due("4 heard it", x.store(4, 1), 1);
        due("1 didn't", x.store(1, 1), 0);
        due("the first", x.come(0), 1);
        due("1 heard it", x.store(1, 1), 1);
        due("the others moved up", x.message(0, 1), 2);
        AgreedLog y = full60();
        due("the 60th", y.come(59), 1);
    }

    static void p14_toOneThatIsntUpItIsLost() {
        AgreedLog x = Bounds.after(31, "timeout 0; stop 1;");
        due("0", x.come(0), 0);
        due("LOST", x.count(1), 1);
        due("it didn't COME", x.count(2), 0);
        due("three wait", x.count(0), 3);
        due("nothing heard", x.store(1, 1), 0);
        due("told all the same", x.count(7), 3);
    }

    static void p14_byALinkThatIsCutByNowItIsLost() {
        AgreedLog x = Bounds.after(31, "timeout 0; cut 0 1;");
        due("0", x.come(0), 0);
        due("LOST", x.count(1), 1);
        due("nothing heard", x.store(1, 1), 0);
    }

    static void p14_theAnswerHasRoomWhere60Waited() {
        AgreedLog x = full60();
        due("1", x.come(30), 1);
        due("60 wait", x.count(0), 60);
        due("none LOST", x.count(1), 0);
        due("TOOK is the last", Bounds.latest(x, 2), 3);
    }

    static void p14_whatComesToALeaderWhile60WaitCanLoseAllButOne() {
        AgreedLog x = Bounds.led(31, "set 0 0 1; come 0;");
        due("TOOK", Bounds.latest(x, 2), 3);
        Bounds.fillTo(x, 0, 60);
        Bounds.come(x, 1, 0, 3);
        due("59 wait, nothing is SENT", x.count(0), 59);
        due("HAS", x.follows(0, 1, 1), 2);
    }

    static void p14_theAnswerByALinkThatIsThereStill() {
        AgreedLog x = Bounds.after(31, "timeout 0; come 0; cut 0 1;");
        due("VOTE waits", Bounds.latest(x, 2), 1);
        due("it is LOST as it comes", x.come(3), 0);
        due("votes", x.store(0, 11), 1);
    }

    // ---- 15: lose

    static void p15_noSuchMessageIsRefusedByMinus2() {
        Bounds.refused(AgreedLog::new, x -> x.lose(0), -2);
        for (int wrong : new int[] {-1, 4, Bounds.LOW, Bounds.HIGH}) {
            Bounds.refused(() -> Bounds.after(31, "timeout 0;"), x -> x.lose(wrong), -2);
        }
        Bounds.refused(() -> full60(), x -> x.lose(60), -2);
    }

    static void p15_theFirstTheLastTheOnlyOne() {
        AgreedLog x = Bounds.after(31, "timeout 0;");
        due("the last", x.lose(3), 3);
        due("to 3 is the last", Bounds.latest(x, 1), 3);
        due("the first", x.lose(0), 2);
        due("to 2 is the first", x.message(0, 1), 2);
        due("two", x.lose(1), 1);
        due("the only one", x.lose(0), 0);
        due("LOST", x.count(1), 4);
        due("none CAME", x.count(2), 0);
        due("none", x.lose(0), -2);
    }

    static void p15_of60() {
        AgreedLog x = full60();
        due("the 60th", x.lose(59), 59);
        due("room for one", x.hand(0, 1), 60);
        due("none LOST by that", x.count(1), 1);
    }

    // ---- 16: twice

    static void p16_noSuchMessageIsRefusedByMinus2() {
        Bounds.refused(AgreedLog::new, x -> x.twice(0), -2);
        for (int wrong : new int[] {-1, 4, Bounds.LOW, Bounds.HIGH}) {
            Bounds.refused(() -> Bounds.after(31, "timeout 0;"), x -> x.twice(wrong), -2);
        }
    }

    static void p16_59Wait_60WaitIsRefusedByMinus4() {
        AgreedLog x = Bounds.led(31);
        Bounds.fillTo(x, 0, 58);
        due("58", x.twice(0), 59);
        due("59", x.twice(58), 60);
        due("60", x.twice(0), -4);
        due("none LOST", x.count(1), 0);
        Bounds.refused(() -> full60(), y -> y.twice(0), -4);
        Bounds.refused(() -> full60(), y -> y.twice(59), -4);
    }

    static void p16_minus2AheadOfMinus4() {
        Bounds.refused(() -> full60(), x -> x.twice(60), -2);
        Bounds.refused(() -> full60(), x -> x.twice(-1), -2);
    }

    static void p16_theOtherOneIsBehindAll_andIsAlike() {
        AgreedLog x = Bounds.led(31, "set 0 2 7; set 0 2 8;");
        due("nine", x.twice(5), 9);
        for (int what = 0; what < 10; what++) {
            due("what " + what, x.message(8, what), x.message(5, what));
        }
        due("to 2", x.message(8, 1), 2);
        due("two entries", x.message(8, 6), 2);
        due("it comes", x.come(8), 1);
        due("its entries came", x.entry(2, 3, 3), 8);
        due("the first one comes, too", x.come(5), 1);
        due("nothing is there twice", x.store(2, 4), 3);
    }

    static void p16_anInstallTwice() {
        AgreedLog x = Bounds.led(7, "stop 2; set 0 0 4; settle 99; compact 0; start 2; beat 0;");
        int i = x.first(0, 2, 4);
        due("three", x.twice(i), 3);
        due("it comes", x.come(2), 1);
        due("CELLS", x.cell(2, 0), 4);
        due("SNAPSHOT", x.store(2, 6), 2);
        due("the other", x.come(i), 1);
        due("it answers again", Bounds.latest(x, 2), 5);
        due("SNAPSHOT", x.store(2, 6), 2);
    }

    static void p16_oneThatCantCome() {
        AgreedLog x = Bounds.after(31, "timeout 0; stop 1; cut 0 2;");
        due("to one that isn't UP", x.twice(0), 5);
        due("by a link that is cut: it waits", x.twice(1), 6);
        due("none LOST", x.count(1), 0);
    }

    // ---- 17: settle

    static void p17_0And201AreRefusedByMinus3_aheadOfMinus5() {
        for (int wrong : new int[] {0, 201, -1, Bounds.LOW, Bounds.HIGH}) {
            Bounds.refused(() -> Bounds.after(31, "timeout 0;"), x -> x.settle(wrong), -3);
            Bounds.refused(AgreedLog::new, x -> x.settle(wrong), -3);
        }
    }

    static void p17_noneWaitIsRefusedByMinus5() {
        for (int n : new int[] {1, 200}) {
            Bounds.refused(AgreedLog::new, x -> x.settle(n), -5);
            Bounds.refused(() -> Bounds.led(31), x -> x.settle(n), -5);
        }
    }

    static void p17_nOfThem_orAsManyAsThereAre() {
        for (int n = 1; n <= 18; n++) {
            AgreedLog x = Bounds.after(31, "timeout 0;");
            due("of 16, " + n, x.settle(n), Math.min(16, n));
            due("CAME", x.count(2), Math.min(16, n));
        }
    }

    static void p17_upTo200() {
        AgreedLog x = long60();
        due("200", x.settle(200), 200);
        due("60 wait still", x.count(0), 60);
        AgreedLog y = long60();
        due("199", y.settle(199), 199);
        due("one more", y.settle(1), 1);
        Bounds.same("alike but for how often it was told", withoutTold(Bounds.facts(x)), withoutTold(Bounds.facts(y)));
    }

    /** 60 messages, each of which brings an answer and that another TAKE, for more than 200. */
    private static AgreedLog long60() {
        return Bounds.led(3, "cut 0 1; times 40 { set 0 0 1; } join 0 1; times 50 { beat 0; } times 10 { beat 0; }");
    }

    private static int[] withoutTold(int[] facts) {
        facts[5 + 7] = 0;
        return facts;
    }

    static void p17_lostOnesCountToo() {
        AgreedLog x = Bounds.after(31, "timeout 0; stop 1; cut 0 2;");
        due("two are LOST", x.settle(2), 2);
        due("LOST", x.count(1), 2);
        due("none CAME", x.count(2), 0);
        due("told all the same", x.count(7), 3);
    }

    static void p17_asOneItCanBeUndone() {
        AgreedLog x = Bounds.after(31, "timeout 0;");
        int[] before = Bounds.facts(x);
        due("16", x.settle(200), 16);
        x.undo(1);
        Bounds.same("as it was", before, Bounds.facts(x));
    }
}
