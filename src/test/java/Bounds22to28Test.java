/** The boundary cases of promises 22 to 28: what stores and messages tell. */
public final class Bounds22to28Test {
    private static final int NONE = AgreedLog.NONE;
    private static final int NO_CELL = Integer.MIN_VALUE;

    private Bounds22to28Test() { }

    private static void due(String what, long got, long want) {
        Bounds.due(what, got, want);
    }

    public static void main(String[] args) {
        Bounds.run(Bounds22to28Test.class, 22, 28);
    }

    private static AgreedLog busy() {
        return Bounds.led(31, "set 0 1 5; settle 99; compact 0; read 0 1; cut 2 3; change 0 7; come 0; stop 4;");
    }

    // ---- 22: store

    static void p22_noSuchStoreIsMinus2() {
        for (int wrong : Bounds.NO_STORES) {
            for (int what : new int[] {0, 16, 17}) {
                Bounds.answers(busy(), x -> x.store(wrong, what), -2);
            }
        }
    }

    static void p22_whatMinus1And17AreMinus2() {
        for (int wrong : new int[] {-1, 17, Bounds.LOW, Bounds.HIGH}) {
            for (int s = 0; s < 5; s++) {
                int store = s;
                Bounds.answers(busy(), x -> x.store(store, wrong), -2);
            }
        }
        due("0", busy().store(0, 0), 1);
        due("16", busy().store(1, 16), 0);
    }

    static void p22_what0To3_upTermVotedRole() {
        AgreedLog x = Bounds.after(31, "careful 1; timeout 3; careful 0; timeout 1; stop 2;");
        int[][] want = {{1, 0, NONE, 0}, {1, 1, 1, 1}, {0, 0, NONE, 0}, {1, 0, NONE, 3}, {1, 0, NONE, 0}};
        for (int s = 0; s < 5; s++) {
            for (int what = 0; what < 4; what++) {
                due("of " + s + " what " + what, x.store(s, what), want[s][what]);
            }
        }
        Bounds.play(x, "settle 99;");
        due("leader", x.store(1, 3), 2);
        due("VOTED", x.store(0, 2), 1);
    }

    static void p22_what1_term200() {
        AgreedLog x = new AgreedLog();
        Bounds.raiseTerm(x, 4, 200);
        due("TERM", x.store(4, 1), 200);
    }

    static void p22_what4To8_lastAndSnapshotAndAgreed() {
        AgreedLog x = Bounds.led(31, "set 0 1 5; settle 99; compact 0;");
        int[] alone = {2, 1, 2, 1, 2};
        for (int what = 4; what <= 8; what++) {
            due("a SNAPSHOT alone, what " + what, x.store(0, what), alone[what - 4]);
        }
        Bounds.play(x, "set 0 1 6;");
        int[] one = {3, 1, 2, 1, 2};
        for (int what = 4; what <= 8; what++) {
            due("one behind it, what " + what, x.store(0, what), one[what - 4]);
        }
        int[] without = {2, 1, 0, 0, 1};
        for (int what = 4; what <= 8; what++) {
            due("no SNAPSHOT, what " + what, x.store(4, what), without[what - 4]);
        }
        x = Bounds.aloneWithLast(120);
        due("LAST", x.store(0, 4), 120);
        due("AGREED", x.store(0, 8), 120);
    }

    static void p22_what9And10_oneSetOrTwo() {
        AgreedLog x = Bounds.led(7, "change 0 31;");
        due("JOINT: the first", x.store(0, 9), 7);
        due("JOINT: the second", x.store(0, 10), 31);
        due("not there", x.store(1, 9), 7);
        due("not JOINT", x.store(1, 10), 0);
        x.settle(200);
        due("NEW", x.store(0, 9), 31);
        due("not JOINT", x.store(0, 10), 0);
    }

    static void p22_what11_votesOfRoles1And3Alone() {
        AgreedLog x = Bounds.after(31, "timeout 4; come 0; come 3;");
        due("a candidate", x.store(4, 11), 17);
        due("a follower", x.store(0, 11), 0);
        x.settle(200);
        due("the leader", x.store(4, 11), 0);
        x = Bounds.after(31, "careful 1; timeout 4; come 0; come 3;");
        due("one that asks first", x.store(4, 11), 17);
    }

    static void p22_what12To16_aRead() {
        AgreedLog x = Bounds.led(31, "set 0 3 -9; settle 99;");
        int[] none = {0, NONE, 0, 0, 0};
        int[] waits = {1, 3, 0, 1, 1};
        int[] answered = {2, 3, -9, 1, 0};
        for (int what = 12; what <= 16; what++) {
            due("none, what " + what, x.store(0, what), none[what - 12]);
        }
        x.read(0, 3);
        for (int what = 12; what <= 16; what++) {
            due("it waits, what " + what, x.store(0, what), waits[what - 12]);
        }
        x.settle(200);
        for (int what = 12; what <= 16; what++) {
            due("answered, what " + what, x.store(0, what), answered[what - 12]);
        }
        x.read(0, 0);
        due("the next one: no number yet", x.store(0, 14), 0);
        due("its CELL", x.store(0, 13), 0);
    }

    // ---- 23: cell

    static void p23_noSuchStoreOrCell() {
        for (int wrong : Bounds.NO_STORES) {
            Bounds.answers(busy(), x -> x.cell(wrong, 0), NO_CELL);
        }
        for (int wrong : new int[] {-1, 4, Bounds.LOW, Bounds.HIGH}) {
            Bounds.answers(busy(), x -> x.cell(0, wrong), NO_CELL);
            Bounds.answers(busy(), x -> x.cell(5, wrong), NO_CELL);
        }
    }

    static void p23_cells0To3OfStores0To4() {
        AgreedLog x = Bounds.led(31, "set 0 0 1; set 0 1 -2; set 0 2 999; set 0 3 -999; settle 99; beat 0; settle 99;");
        int[] want = {1, -2, 999, -999};
        for (int s = 0; s < 5; s++) {
            for (int c = 0; c < 4; c++) {
                due("CELL", x.cell(s, c), want[c]);
            }
        }
    }

    static void p23_whatIsntAgreedIsntDone() {
        AgreedLog x = Bounds.led(31, "set 0 0 1;");
        due("not yet", x.cell(0, 0), 0);
        x.settle(6);
        due("AGREED by it", x.cell(0, 0), 1);
        due("not by others", x.cell(1, 0), 0);
    }

    static void p23_setOverAdd_addOverSet() {
        AgreedLog x = Bounds.led(1, "add 0 2 5; add 0 2 -8; add 0 2 0;");
        due("ADD", x.cell(0, 2), -3);
        Bounds.play(x, "set 0 2 7;");
        due("SET", x.cell(0, 2), 7);
        Bounds.play(x, "add 0 2 -7;");
        due("ADD", x.cell(0, 2), 0);
    }

    // ---- 24: entry

    static void p24_noSuchStoreIsMinus1000() {
        for (int wrong : Bounds.NO_STORES) {
            Bounds.answers(busy(), x -> x.entry(wrong, 3, 0), -1000);
        }
    }

    static void p24_place0AndBelow_lastAndOneAbove() {
        AgreedLog x = Bounds.led(31, "set 0 1 5;");
        for (int place : new int[] {Bounds.LOW, -1, 0, 3, 121, Bounds.HIGH}) {
            for (int what = 0; what < 4; what++) {
                due("place " + place, x.entry(0, place, what), -1000);
            }
        }
        due("1", x.entry(0, 1, 0), 1);
        due("LAST", x.entry(0, 2, 3), 5);
        AgreedLog y = Bounds.aloneWithLast(120);
        due("120", y.entry(0, 120, 0), 21);
        Bounds.answers(y, z -> z.entry(0, 121, 0), -1000);
    }

    static void p24_theSnapshotsPlaceAndOneBehind() {
        AgreedLog x = Bounds.led(31, "set 0 1 5; compact 0;");
        due("at it", x.entry(0, 1, 0), -1000);
        due("behind it", x.entry(0, 2, 0), 1);
    }

    static void p24_whatMinus1And4AreMinus1000() {
        for (int wrong : new int[] {-1, 4, Bounds.LOW, Bounds.HIGH}) {
            Bounds.answers(Bounds.led(31), x -> x.entry(0, 1, wrong), -1000);
        }
    }

    static void p24_kinds0To4() {
        AgreedLog x = Bounds.led(3, "set 0 3 -999; add 0 1 999; change 0 7; settle 99;");
        int[][] want = {{1, 0, 0, 0}, {1, 1, 3, -999}, {1, 2, 1, 999}, {1, 3, 3, 7}, {1, 4, 7, 0}};
        for (int place = 1; place <= 5; place++) {
            for (int what = 0; what < 4; what++) {
                due("place " + place + " what " + what, x.entry(0, place, what), want[place - 1][what]);
            }
        }
    }

    static void p24_allSetsOfJointAndNew() {
        for (int set = 1; set <= 31; set++) {
            if (set != 16) {
                AgreedLog x = Bounds.after(16, "timeout 4;");
                x.change(4, set);
                x.settle(200);
                due("JOINT", x.entry(4, 2, 2), 16);
                due("JOINT", x.entry(4, 2, 3), set);
                due("NEW", x.entry(4, 3, 2), set);
                due("NEW", x.entry(4, 3, 3), 0);
            }
        }
    }

    // ---- 25: follows

    static void p25_noSuchIsMinus2_aheadOfNone() {
        for (int wrong : Bounds.NO_STORES) {
            Bounds.answers(Bounds.led(31), x -> x.follows(wrong, 0, 0), -2);
            Bounds.answers(Bounds.led(31), x -> x.follows(0, wrong, 0), -2);
            Bounds.answers(Bounds.led(31), x -> x.follows(1, wrong, 0), -2);
        }
        for (int wrong : new int[] {-1, 2, Bounds.LOW, Bounds.HIGH}) {
            Bounds.answers(Bounds.led(31), x -> x.follows(0, 1, wrong), -2);
            Bounds.answers(Bounds.led(31), x -> x.follows(1, 0, wrong), -2);
        }
    }

    static void p25_whoIsntTheLeaderIsNone() {
        Bounds.answers(Bounds.led(31), x -> x.follows(1, 0, 0), NONE);
        Bounds.answers(Bounds.after(31, "timeout 1;"), x -> x.follows(1, 0, 1), NONE);
        Bounds.answers(Bounds.after(31, "careful 1; timeout 1;"), x -> x.follows(1, 0, 1), NONE);
        Bounds.answers(Bounds.led(31, "stop 0;"), x -> x.follows(0, 1, 0), NONE);
    }

    static void p25_atFirstNextIsLastAnd1OfThen_hasIs0() {
        AgreedLog x = Bounds.after(31, "timeout 0; settle 6;");
        due("leader", x.leader(), 0);
        for (int s = 0; s < 5; s++) {
            due("NEXT", x.follows(0, s, 0), 1);
            due("HAS", x.follows(0, s, 1), 0);
        }
    }

    static void p25_itselfAndWhoIsNoMemberStayAsAtFirst() {
        AgreedLog x = Bounds.led(7, "set 0 0 1; settle 99;");
        due("itself", x.follows(0, 0, 0), 1);
        due("itself", x.follows(0, 0, 1), 0);
        due("no MEMBER", x.follows(0, 4, 0), 1);
        due("no MEMBER", x.follows(0, 4, 1), 0);
        due("a MEMBER", x.follows(0, 2, 0), 3);
        due("a MEMBER", x.follows(0, 2, 1), 2);
    }

    static void p25_upTo121() {
        AgreedLog x = Bounds.aloneWithLast(120);
        due("NEXT", x.follows(0, 4, 0), 120);
        Bounds.play(x, "stop 0; start 0; timeout 0;");
        due("NEXT of one that came at LAST 120", x.follows(0, 4, 0), 121);
    }

    // ---- 26: message

    static void p26_noSuchMessageIsMinus2() {
        Bounds.answers(new AgreedLog(), x -> x.message(0, 0), -2);
        for (int wrong : new int[] {-1, 4, 60, Bounds.LOW, Bounds.HIGH}) {
            Bounds.answers(Bounds.after(31, "timeout 0;"), x -> x.message(wrong, 0), -2);
        }
        AgreedLog full = Bounds.led(31);
        Bounds.fillTo(full, 0, 60);
        due("the 60th", full.message(59, 2), 2);
        Bounds.answers(full, x -> x.message(60, 2), -2);
    }

    static void p26_whatMinus1And10AreMinus2() {
        for (int wrong : new int[] {-1, 10, Bounds.LOW, Bounds.HIGH}) {
            Bounds.answers(Bounds.after(31, "timeout 0;"), x -> x.message(0, wrong), -2);
        }
    }

    private static void tells(String what, AgreedLog x, int from, int to, int... want) {
        int i = x.first(from, to, want[0]);
        due(what + " waits", i >= 0 ? 1 : 0, 1);
        due(what + " from", x.message(i, 0), from);
        due(what + " to", x.message(i, 1), to);
        for (int k = 0; k < want.length; k++) {
            due(what + " what " + (k + 2), x.message(i, k + 2), want[k]);
        }
    }

    static void p26_ofEachKind() {
        AgreedLog x = Bounds.led(7, "set 0 0 1; settle 99; timeout 2;");
        tells("ASK", x, 2, 1, 0, 2, 2, 1, 0, 0, 1, 0);
        x.come(x.first(2, 1, 0));
        tells("VOTE", x, 1, 2, 1, 2, 1, 0, 0, 0, 1, 0);
        x = Bounds.led(7, "read 0 0; set 0 0 1;");
        tells("TAKE", x, 0, 1, 2, 1, 1, 1, 0, 1, 1, 1);
        x.come(x.first(0, 1, 2));
        tells("TOOK", x, 1, 0, 3, 1, 1, 1, 0, 0, 1, 1);
        x = Bounds.led(7, "stop 2; set 0 0 4; settle 99; compact 0; start 2; read 0 0;");
        tells("INSTALL", x, 0, 2, 4, 1, 2, 1, 0, 0, 1, 1);
        x.come(x.first(0, 2, 4));
        tells("INSTALLED", x, 2, 0, 5, 1, 2, 0, 0, 0, 1, 1);
        x = Bounds.led(7, "read 0 0; settle 99; hand 0 1;");
        tells("NOW", x, 0, 1, 6, 1, 0, 0, 0, 0, 1, 0);
        x = Bounds.led(7, "read 0 0; settle 99; careful 1; timeout 1;");
        tells("MAY", x, 1, 2, 7, 2, 1, 1, 0, 0, 1, 0);
        x.come(x.first(1, 2, 7));
        tells("WOULD 1", x, 2, 1, 8, 2, 1, 0, 0, 0, 1, 0);
        x.come(x.first(1, 0, 7));
        tells("WOULD 0", x, 0, 1, 8, 1, 0, 0, 0, 0, 1, 0);
    }

    static void p26_what8_itCouldComeNow() {
        AgreedLog x = Bounds.after(31, "timeout 0;");
        due("it could", x.message(0, 8), 1);
        x.stop(1);
        due("not UP", x.message(0, 8), 0);
        x.start(1);
        due("UP again", x.message(0, 8), 1);
        x.link(1, 0, 0);
        due("cut", x.message(0, 8), 0);
        x.stop(0);
        x.link(0, 1, 1);
        due("who sent it isn't UP", x.message(0, 8), 1);
    }

    // ---- 27: first

    static void p27_noSuchStoreOrKindIsMinus2() {
        for (int wrong : Bounds.NO_STORES) {
            Bounds.answers(busy(), x -> x.first(wrong, 1, 2), -2);
            Bounds.answers(busy(), x -> x.first(0, wrong, 2), -2);
        }
        for (int wrong : new int[] {-1, 9, Bounds.LOW, Bounds.HIGH}) {
            Bounds.answers(busy(), x -> x.first(0, 1, wrong), -2);
        }
    }

    static void p27_kinds0To8() {
        for (int kind = 0; kind <= 8; kind++) {
            int k = kind;
            Bounds.answers(new AgreedLog(), x -> x.first(0, 1, k), NONE);
        }
        due("KIND 0", Bounds.after(31, "timeout 0;").first(0, 4, 0), 3);
        due("KIND 8", Bounds.after(31, "careful 1; timeout 0; come 0;").first(1, 0, 8), 3);
    }

    static void p27_theFirstOfSeveral_ofThatKindAndWayAlone() {
        AgreedLog x = Bounds.led(31, "beat 0; beat 0; come 0;");
        due("the second TAKE to 1", x.first(0, 1, 2), 3);
        due("the first to 2", x.first(0, 2, 2), 0);
        due("TOOK", x.first(1, 0, 3), 7);
        due("the other way", x.first(1, 0, 2), NONE);
        due("another KIND", x.first(0, 2, 3), NONE);
    }

    static void p27_fromOneToItselfIsNone() {
        for (int s = 0; s < 5; s++) {
            due("none", busy().first(s, s, 2), NONE);
        }
    }

    static void p27_the60th() {
        AgreedLog x = Bounds.led(31);
        Bounds.fillTo(x, 0, 59);
        due("at 59", x.hand(0, 3), 60);
        due("NOW", x.first(0, 3, 6), 59);
    }

    // ---- 28: linked

    static void p28_noSuchStoreIsMinus2_aheadOfMinus3() {
        for (int wrong : Bounds.NO_STORES) {
            Bounds.answers(busy(), x -> x.linked(wrong, 1), -2);
            Bounds.answers(busy(), x -> x.linked(1, wrong), -2);
            Bounds.answers(busy(), x -> x.linked(wrong, wrong), -2);
        }
    }

    static void p28_theyAreOneIsMinus3() {
        for (int s = 0; s < 5; s++) {
            int one = s;
            Bounds.answers(busy(), x -> x.linked(one, one), -3);
        }
    }

    static void p28_bothWays_upOrNot() {
        AgreedLog x = Bounds.after(31, "cut 4 0; stop 1;");
        due("cut", x.linked(0, 4), 0);
        due("cut", x.linked(4, 0), 0);
        due("not UP, but linked", x.linked(0, 1), 1);
        due("linked", x.linked(3, 4), 1);
    }
}
