/** The boundary cases of promises 29 to 36: logs, votes. */
public final class Bounds29to36Test {
    private static final int NONE = AgreedLog.NONE;

    private Bounds29to36Test() { }

    private static void due(String what, long got, long want) {
        Bounds.due(what, got, want);
    }

    public static void main(String[] args) {
        Bounds.run(Bounds29to36Test.class, 29, 36);
    }

    /** 0 leads TERM 1 alone with entries up to 4 that nobody has; 1 leads TERM 2 with an entry at 2. */
    private static AgreedLog parted() {
        return Bounds.led(31, "cut 0 1; cut 0 2; cut 0 3; cut 0 4; set 0 0 1; set 0 0 2; set 0 0 3; timeout 1; settle 99;");
    }

    // ---- 29: alike

    static void p29_noSuchStoreIsMinus2_aheadOfMinus3() {
        for (int wrong : Bounds.NO_STORES) {
            Bounds.answers(parted(), x -> x.alike(wrong, 1), -2);
            Bounds.answers(parted(), x -> x.alike(1, wrong), -2);
            Bounds.answers(parted(), x -> x.alike(wrong, wrong), -2);
        }
    }

    static void p29_theyAreOneIsMinus3() {
        for (int s = 0; s < 5; s++) {
            int one = s;
            Bounds.answers(parted(), x -> x.alike(one, one), -3);
        }
    }

    static void p29_logsWithoutEntriesAre0() {
        due("both", new AgreedLog().alike(0, 1), 0);
        AgreedLog x = Bounds.led(1, "set 0 0 1;");
        due("one", x.alike(0, 1), 0);
        due("the other", x.alike(1, 0), 0);
    }

    static void p29_upToTheLesserLast() {
        AgreedLog x = Bounds.led(31, "set 0 0 1; set 0 0 1; come 0;");
        due("LAST 3 and 2", x.alike(0, 1), 2);
        due("the other way", x.alike(1, 0), 2);
        due("LAST 3 and 1", x.alike(0, 2), 1);
    }

    static void p29_entriesOfOtherTermsArentAlike() {
        AgreedLog x = parted();
        due("at 2 other TERMS", x.alike(0, 1), 1);
        due("at 2 one TERM", x.alike(1, 2), 2);
    }

    static void p29_theLastOneOfASnapshotCounts() {
        AgreedLog x = Bounds.led(31, "set 0 0 1; settle 99; compact 0;");
        due("SNAPSHOT and LOG", x.alike(0, 1), 2);
        Bounds.play(x, "beat 0; settle 99; compact 1;");
        due("both SNAPSHOTS", x.alike(0, 1), 2);
    }

    static void p29_onesBelowTheSnapshotsPlaceDont() {
        AgreedLog x = Bounds.led(31, "cut 0 4; set 0 0 1; settle 99; compact 0;");
        due("LAST of the other is below", x.alike(0, 4), 0);
        due("the other way", x.alike(4, 0), 0);
        x = Bounds.led(31, "set 0 0 1; settle 99; compact 0; set 0 0 2; come 0; beat 0;");
        due("behind the SNAPSHOT", x.alike(0, 1), 3);
        due("at the SNAPSHOT", x.alike(0, 2), 2);
    }

    static void p29_snapshotsAtOtherPlacesAlone() {
        AgreedLog x = Bounds.led(7, "set 0 0 1; settle 99; beat 0; settle 99; compact 1; cut 0 1; set 0 0 2; settle 99; compact 0;");
        due("SNAPSHOT", x.store(0, 6), 3);
        due("SNAPSHOT of the other", x.store(1, 6), 2);
        due("none", x.alike(0, 1), 0);
        due("the other way", x.alike(1, 0), 0);
        due("with an entry there", x.alike(0, 2), 3);
        due("with an entry there", x.alike(1, 2), 2);
    }

    static void p29_aSnapshotAgainstAnotherTermAtItsPlace() {
        AgreedLog x = parted();
        x.compact(1);
        due("SNAPSHOT at 2 of TERM 2", x.store(1, 6), 2);
        due("0 has TERM 1 there", x.alike(0, 1), 0);
    }

    static void p29_place120() {
        AgreedLog x = Bounds.aloneWithLast(99);
        Bounds.play(x, "change 0 3; settle 99; times 19 { stop 0; start 0; timeout 0; settle 99; }");
        due("LAST", x.store(0, 4), 120);
        due("alike", x.alike(0, 1), 120);
    }

    // ---- 30: grants

    static void p30_noSuchStoreIsMinus2() {
        for (int wrong : Bounds.NO_STORES) {
            Bounds.answers(parted(), x -> x.grants(wrong), -2);
        }
    }

    static void p30_logsWithoutEntries_all() {
        for (int s = 0; s < 5; s++) {
            due("all", new AgreedLog().grants(s), 31);
        }
    }

    static void p30_lastOneLess_alike_oneMore() {
        AgreedLog x = Bounds.led(31, "set 0 0 1; come 0;");
        due("0 and 1 have one more: all", x.grants(0), 31);
        due("all", x.grants(1), 31);
        due("not 0 and 1", x.grants(2), 28);
    }

    static void p30_aGreaterTermAtLastThoughLastIsLess() {
        AgreedLog x = parted();
        due("LAST 2 of TERM 2", x.grants(1), 31);
        due("LAST 4 of TERM 1: it itself", x.grants(0), 1);
    }

    static void p30_upOrNot_linkedOrNot_memberOrNot_votedOrNot() {
        AgreedLog x = Bounds.after(1, "cut 0 1; stop 2; stop 0;");
        due("all", x.grants(0), 31);
        due("all", x.grants(2), 31);
        due("all", Bounds.led(31).grants(3), 31);
    }

    static void p30_aTermThatAllHaventHad() {
        AgreedLog x = new AgreedLog();
        Bounds.raiseTerm(x, 1, 200);
        due("TERMS don't matter", x.grants(0), 31);
    }

    static void p30_snapshotsAlone() {
        AgreedLog x = Bounds.led(7, "cut 0 2; set 0 0 1; settle 99; compact 0;");
        due("LAST is the SNAPSHOT's place", x.grants(0), 31);
        due("one less: not 0, 1", x.grants(2), 28);
    }

    // ---- 31: electable

    static void p31_noSuchStoreIsMinus2() {
        for (int wrong : Bounds.NO_STORES) {
            Bounds.answers(parted(), x -> x.electable(wrong), -2);
        }
    }

    static void p31_itIsntUpOrNoMember() {
        due("not UP", Bounds.after(31, "stop 2;").electable(2), 0);
        due("UP", Bounds.after(31, "stop 2; start 2;").electable(2), 1);
        due("no MEMBER", Bounds.after(7).electable(3), 0);
        due("a MEMBER", Bounds.after(7).electable(2), 1);
    }

    static void p31_threeOfFiveUp_twoArent() {
        AgreedLog x = Bounds.after(31, "stop 3; stop 4;");
        due("three", x.electable(0), 1);
        x.stop(2);
        due("two", x.electable(0), 0);
    }

    static void p31_twoOfFourAreNoMajority() {
        AgreedLog x = Bounds.after(15, "stop 3;");
        due("three", x.electable(0), 1);
        x.stop(2);
        due("two", x.electable(0), 0);
        due("it could with a no MEMBER, but that doesn't count", x.electable(1), 0);
    }

    static void p31_linksToItAlone() {
        AgreedLog x = Bounds.after(31, "cut 0 1; cut 0 2;");
        due("two cut", x.electable(0), 1);
        x.link(0, 3, 0);
        due("three cut", x.electable(0), 0);
        due("one cut", x.electable(1), 1);
        Bounds.play(x, "cut 1 2; cut 3 4;");
        due("two cut", x.electable(1), 1);
    }

    static void p31_theSetOfOne() {
        AgreedLog x = Bounds.after(8, "cut 3 0; cut 3 1; cut 3 2; cut 3 4; stop 0;");
        due("itself is enough", x.electable(3), 1);
        due("others no MEMBERS", x.electable(1), 0);
    }

    static void p31_aMajorityThatWouldGrant() {
        AgreedLog x = Bounds.led(31, "set 0 0 1; come 0; come 0;");
        due("three have more", x.electable(3), 0);
        due("one that has it", x.electable(1), 1);
        x = Bounds.led(31, "set 0 0 1; come 0;");
        due("two have more", x.electable(3), 1);
    }

    static void p31_jointNeedsEachSet() {
        AgreedLog x = Bounds.led(1, "change 0 6; lose 0; lose 0;");
        due("all UP", x.electable(0), 1);
        x.stop(2);
        due("half of the second set", x.electable(0), 0);
        x.start(2);
        x.link(0, 1, 0);
        due("half of the second set", x.electable(0), 0);
        due("by its own MEMBERS no MEMBER", x.electable(1), 0);
    }

    static void p31_termAndLeadersDontMatter() {
        due("the leader", Bounds.led(31).electable(0), 1);
        AgreedLog x = new AgreedLog();
        Bounds.raiseTerm(x, 0, 200);
        due("TERM 200", x.electable(0), 1);
    }

    // ---- 32: holders

    static void p32_noSuchStoreIsMinus2_aheadOfMinus5() {
        for (int wrong : Bounds.NO_STORES) {
            Bounds.answers(parted(), x -> x.holders(wrong, 1), -2);
            Bounds.answers(parted(), x -> x.holders(wrong, 0), -2);
        }
    }

    static void p32_noneInItsLogIsMinus5() {
        for (int place : new int[] {Bounds.LOW, -1, 0, 5, 121, Bounds.HIGH}) {
            Bounds.answers(parted(), x -> x.holders(0, place), -5);
        }
        due("LAST", parted().holders(0, 4), 1);
        due("1", parted().holders(0, 1), 31);
        Bounds.answers(new AgreedLog(), x -> x.holders(0, 1), -5);
        AgreedLog y = Bounds.led(31, "set 0 0 1; compact 0;");
        Bounds.answers(y, x -> x.holders(0, 1), -5);
        due("behind the SNAPSHOT", y.holders(0, 2), 1);
        AgreedLog z = Bounds.aloneWithLast(120);
        due("120", z.holders(0, 120), 1);
        Bounds.answers(z, x -> x.holders(0, 121), -5);
    }

    static void p32_ofItsTermAlone() {
        AgreedLog x = parted();
        due("TERM 1 at 2", x.holders(0, 2), 1);
        due("TERM 2 at 2", x.holders(1, 2), 30);
    }

    static void p32_upOrNot_memberOrNot() {
        AgreedLog x = Bounds.led(31, "stop 3;");
        due("not UP", x.holders(0, 1), 31);
        x = Bounds.led(7, "change 0 3; settle 99;");
        due("no MEMBER any more", x.holders(0, 1) & 4, 4);
    }

    static void p32_aSnapshotOfThatPlaceOrAbove_notBelow() {
        AgreedLog x = Bounds.led(31, "set 0 0 1; settle 99; beat 0; settle 99; compact 1; set 0 0 2;");
        due("SNAPSHOT of 2, asked for 1", x.holders(0, 1), 31);
        due("SNAPSHOT of 2, asked for 2", x.holders(0, 2), 31);
        due("SNAPSHOT of 2, asked for 3", x.holders(0, 3), 1);
    }

    static void p32_aSnapshotCountsOnlyIfFirstAgreedIsOfThatTerm() {
        AgreedLog x = parted();
        x.compact(1);
        due("FIRST AGREED at 2", x.agreed(2, 0), 2);
        due("of TERM 1: not 1", x.holders(0, 2), 1);
        due("of TERM 2: 1, too", x.holders(2, 2), 30);
    }

    // ---- 33: safe

    static void p33_noSuchStoreIsMinus2_aheadOfMinus5() {
        for (int wrong : Bounds.NO_STORES) {
            Bounds.answers(parted(), x -> x.safe(wrong, 1), -2);
            Bounds.answers(parted(), x -> x.safe(wrong, 0), -2);
        }
    }

    static void p33_noneInItsLogIsMinus5() {
        for (int place : new int[] {Bounds.LOW, -1, 0, 5, 121, Bounds.HIGH}) {
            Bounds.answers(parted(), x -> x.safe(0, place), -5);
        }
        Bounds.answers(new AgreedLog(), x -> x.safe(0, 1), -5);
        Bounds.answers(Bounds.led(31, "compact 0;"), x -> x.safe(0, 1), -5);
        due("LAST", parted().safe(0, 4), 0);
        due("1", parted().safe(0, 1), 1);
    }

    static void p33_threeOfFive_twoArent() {
        AgreedLog x = Bounds.led(31, "set 0 0 1; come 0;");
        due("two", x.safe(0, 2), 0);
        x.come(0);
        due("three", x.safe(0, 2), 1);
    }

    static void p33_threeOfFour_twoArent() {
        AgreedLog x = Bounds.led(15, "set 0 0 1; come 0;");
        due("two", x.safe(0, 2), 0);
        x.come(0);
        due("three", x.safe(0, 2), 1);
    }

    static void p33_setOfOne_setOfTwo() {
        due("one of one", Bounds.led(1).safe(0, 1), 1);
        AgreedLog x = Bounds.led(3, "set 0 0 1;");
        due("one of two", x.safe(0, 2), 0);
        x.come(0);
        due("two of two", x.safe(0, 2), 1);
    }

    static void p33_jointNeedsEachSet() {
        AgreedLog x = Bounds.led(7, "change 0 24; come 0;");
        due("two of three, none of two", x.safe(0, 2), 0);
        Bounds.come(x, 0, 3, 2);
        due("two of three, one of two", x.safe(0, 2), 0);
        Bounds.come(x, 0, 4, 2);
        due("two of three, two of two", x.safe(0, 2), 1);
    }

    static void p33_byItsOwnMembers_noOthersCount() {
        AgreedLog x = Bounds.led(7, "change 0 24; come 0; come 0;");
        due("all of the first set", x.holders(0, 2), 7);
        due("JOINT", x.safe(0, 2), 0);
        due("place 1 by JOINT: 3, 4 lack it", x.safe(0, 1), 0);
        x = Bounds.led(7, "beat 0; settle 99;");
        due("by a store that is no MEMBER: it has none", x.safe(4, 1), -5);
    }

    // ---- 34: agreed

    static void p34_nothingWasIsMinus1000() {
        for (int place : new int[] {Bounds.LOW, -1, 0, 2, 120, 121, Bounds.HIGH}) {
            for (int what = 0; what < 4; what++) {
                int w = what;
                Bounds.answers(Bounds.led(31, "set 0 0 1;"), x -> x.agreed(place, w), -1000);
            }
        }
    }

    static void p34_whatMinus1And4AreMinus1000() {
        for (int wrong : new int[] {-1, 4, Bounds.LOW, Bounds.HIGH}) {
            Bounds.answers(Bounds.led(31), x -> x.agreed(1, wrong), -1000);
        }
        due("0", Bounds.led(31).agreed(1, 0), 1);
        due("3", Bounds.led(31).agreed(1, 3), 0);
    }

    static void p34_places1And120() {
        AgreedLog x = Bounds.aloneWithLast(119);
        due("not yet", x.agreed(120, 0), -1000);
        Bounds.play(x, "stop 0; start 0; timeout 0;");
        due("120", x.agreed(120, 0), 21);
        due("1", x.agreed(1, 0), 1);
    }

    static void p34_stopAndSnapshotsLeaveIt() {
        AgreedLog x = Bounds.led(31, "set 0 3 -7; settle 99; compact 0; stop 0; stop 1; stop 2; stop 3; stop 4;");
        int[] want = {1, 1, 3, -7};
        for (int what = 0; what < 4; what++) {
            due("what " + what, x.agreed(2, what), want[what]);
        }
    }

    static void p34_firstInAnyStore_aheadOfTheOthers() {
        AgreedLog x = Bounds.led(31, "set 0 0 1; settle 4; come 0;");
        due("two of five", x.agreed(2, 0), -1000);
        x.come(0);
        due("three of five", x.agreed(2, 0), 1);
        due("not by others", x.store(1, 8), 1);
    }

    static void p34_undoAndImagesTakeItBack() {
        AgreedLog x = Bounds.led(31, "set 0 0 1;");
        x.image(0);
        x.settle(200);
        due("AGREED", x.agreed(2, 0), 1);
        x.undo(1);
        due("UNDONE", x.agreed(2, 0), -1000);
        x.settle(200);
        x.restore(0);
        due("as in the IMAGE", x.agreed(2, 0), -1000);
    }

    // ---- 35: leaders

    static void p35_terms0And201AreMinus3() {
        for (int wrong : new int[] {0, 201, -1, Bounds.LOW, Bounds.HIGH}) {
            Bounds.answers(Bounds.led(31), x -> x.leaders(wrong), -3);
        }
    }

    static void p35_terms1And200() {
        AgreedLog x = Bounds.led(31);
        due("1", x.leaders(1), 1);
        due("200", x.leaders(200), 0);
        AgreedLog y = new AgreedLog();
        Bounds.raiseTerm(y, 4, 199);
        y.timeout(4);
        y.settle(200);
        due("199: it was none", y.leaders(199), 0);
        due("200", y.leaders(200), 16);
    }

    static void p35_whoEverBecameIt() {
        AgreedLog x = Bounds.led(31, "stop 0; timeout 1; settle 99;");
        due("not any more", x.leaders(1), 1);
        due("now", x.leaders(2), 2);
        due("candidates aren't", Bounds.after(31, "timeout 0;").leaders(1), 0);
    }

    // ---- 36: leader

    static void p36_noneIsNone() {
        Bounds.answers(new AgreedLog(), x -> x.leader(), NONE);
        Bounds.answers(Bounds.after(31, "timeout 0;"), x -> x.leader(), NONE);
        Bounds.answers(Bounds.led(31, "stop 0;"), x -> x.leader(), NONE);
    }

    static void p36_ofTheGreatestTerm() {
        AgreedLog x = parted();
        due("two", x.count(4), 3);
        due("of TERM 2", x.leader(), 1);
        x.stop(1);
        due("of TERM 1", x.leader(), 0);
        x = Bounds.after(31, "timeout 4; settle 99; cut 4 0; cut 4 1; cut 4 2; cut 4 3; timeout 0; settle 99;");
        due("0 of TERM 2 ahead of 4 of TERM 1", x.leader(), 0);
    }

    static void p36_stores0And4() {
        due("0", Bounds.led(31).leader(), 0);
        due("4", Bounds.after(16, "timeout 4;").leader(), 4);
    }
}
