/** Promises 22 to 36: what can be asked of stores, messages, logs and votes. */
public final class AsksTest {
    private static final int LOW = Integer.MIN_VALUE;
    private static final int HIGH = Integer.MAX_VALUE;
    private static final int[] NO_STORES = {-1, 5, LOW, HIGH};

    private static void due(String what, long got, long want) {
        Check.due(what, got, want);
    }

    private static AgreedLog after(int members, String script) {
        AgreedLog x = new AgreedLog();
        x.begin(members);
        Check.script(x, script);
        due("no FAULT: " + script, x.fault(0), 0);
        due("not refused: " + script, x.halted(0), 0);
        return x;
    }

    public static void main(String[] args) {
        store();
        cell();
        entry();
        follows();
        message();
        first();
        linked();
        alike();
        grants();
        electable();
        holders();
        safe();
        agreed();
        leaders();
        leader();
        Check.end("AsksTest");
    }

    private static void store() {
        AgreedLog x = after(31, "timeout 0; settle 99; set 0 2 9; settle 99; compact 0; set 0 2 8; change 0 3;");
        int[] want = {1, 1, 0, 2, 4, 1, 2, 1, 2, 31, 3, 0, 0, -1, 0, 0, 0};
        for (int what = 0; what < want.length; what++) {
            due("22 what " + what, x.store(0, what), want[what]);
        }
        for (int wrong : NO_STORES) {
            due("22 no such STORE", x.store(wrong, 0), -2);
        }
        for (int wrong : new int[] {-1, 17, LOW, HIGH}) {
            due("22 no such what", x.store(0, wrong), -2);
        }
        due("22 another", x.store(1, 2), 0);
        due("22 another's ROLE", x.store(1, 3), 0);
        due("22 votes of no candidate", x.store(1, 11), 0);
    }

    private static void cell() {
        AgreedLog x = after(1, "timeout 0; set 0 0 999; add 0 0 999; set 0 3 -999; add 0 3 -1; add 0 1 7;");
        due("23", x.cell(0, 0), 1998);
        due("23", x.cell(0, 3), -1000);
        due("23", x.cell(0, 1), 7);
        due("23", x.cell(0, 2), 0);
        due("23 another STORE", x.cell(1, 0), 0);
        for (int wrong : NO_STORES) {
            due("23 no such STORE", x.cell(wrong, 0), LOW);
        }
        for (int wrong : new int[] {-1, 4, LOW, HIGH}) {
            due("23 no such CELL", x.cell(0, wrong), LOW);
        }
    }

    private static void entry() {
        AgreedLog x = after(1, "timeout 0; set 0 3 -999; add 0 1 999; change 0 3;");
        int[][] want = {{1, 0, 0, 0}, {1, 1, 3, -999}, {1, 2, 1, 999}, {1, 3, 1, 3}};
        for (int place = 1; place <= 4; place++) {
            for (int what = 0; what < 4; what++) {
                due("24 " + place + " " + what, x.entry(0, place, what), want[place - 1][what]);
            }
        }
        x.settle(200);
        due("24 NEW", x.entry(0, 5, 1), 4);
        due("24 NEW's set", x.entry(0, 5, 2), 3);
        due("24 NEW's number", x.entry(0, 5, 3), 0);
        for (int wrong : new int[] {0, -1, 6, 121, LOW, HIGH}) {
            due("24 none there", x.entry(0, wrong, 0), -1000);
        }
        for (int wrong : NO_STORES) {
            due("24 no such STORE", x.entry(wrong, 1, 0), -1000);
        }
        for (int wrong : new int[] {-1, 4, LOW, HIGH}) {
            due("24 no such what", x.entry(0, 1, wrong), -1000);
        }
        x.compact(0);
        due("24 not in the LOG any more", x.entry(0, 4, 0), -1000);
        due("24 in another's", x.entry(1, 4, 0), 1);
    }

    private static void follows() {
        AgreedLog x = after(7, "timeout 0; settle 99; set 0 0 1; come 0;");
        due("25 NEXT", x.follows(0, 1, 0), 2);
        due("25 HAS", x.follows(0, 1, 1), 1);
        x.come(1);
        due("25 NEXT", x.follows(0, 1, 0), 3);
        due("25 HAS", x.follows(0, 1, 1), 2);
        due("25 of one that is no MEMBER", x.follows(0, 4, 0), 1);
        due("25 of one that is no MEMBER", x.follows(0, 4, 1), 0);
        due("25 of itself", x.follows(0, 0, 0), 1);
        due("25 of itself", x.follows(0, 0, 1), 0);
        due("25 no leader", x.follows(1, 0, 0), -1);
        due("25 no leader", x.follows(1, 1, 1), -1);
        for (int wrong : NO_STORES) {
            due("25 no such", x.follows(wrong, 0, 0), -2);
            due("25 no such", x.follows(0, wrong, 0), -2);
            due("25 -2 ahead of NONE", x.follows(1, wrong, 0), -2);
        }
        for (int wrong : new int[] {-1, 2, LOW, HIGH}) {
            due("25 no such what", x.follows(0, 1, wrong), -2);
            due("25 -2 ahead of NONE", x.follows(1, 0, wrong), -2);
        }
        x.stop(0);
        due("25 not any more", x.follows(0, 1, 0), -1);
    }

    private static void facts(AgreedLog x, int i, String name, int... want) {
        for (int what = 0; what < want.length; what++) {
            due("26 " + name + " " + what, x.message(i, what), want[what]);
        }
    }

    private static void message() {
        AgreedLog x = after(7, "timeout 0;");
        facts(x, 0, "ASK", 0, 1, 0, 1, 0, 0, 0, 0, 1, 0);
        x.come(0);
        facts(x, 1, "VOTE", 1, 0, 1, 1, 1, 0, 0, 0, 1, 0);
        x.settle(2);
        facts(x, 1, "TAKE", 0, 1, 2, 1, 0, 0, 1, 0, 1, 0);
        x.come(1);
        facts(x, 2, "TOOK", 1, 0, 3, 1, 1, 1, 0, 0, 1, 0);
        x.settle(200);
        x.read(0, 0);
        facts(x, 1, "TAKE with a ROUND", 0, 2, 2, 1, 1, 1, 0, 1, 1, 1);
        x.come(1);
        facts(x, 1, "TOOK with a ROUND", 2, 0, 3, 1, 1, 1, 0, 0, 1, 1);
        x.settle(200);
        x.hand(0, 1);
        facts(x, 0, "NOW", 0, 1, 6, 1, 0, 0, 0, 0, 1, 0);
        x.lose(0);
        x.careful(1);
        x.timeout(2);
        facts(x, 1, "MAY", 2, 1, 7, 2, 1, 1, 0, 0, 1, 0);
        x.come(1);
        facts(x, 1, "WOULD 1", 1, 2, 8, 2, 1, 0, 0, 0, 1, 0);
        x.come(0);
        facts(x, 1, "WOULD 0", 0, 2, 8, 1, 0, 0, 0, 0, 1, 0);
        x.link(0, 2, 0);
        due("26 can't COME: cut", x.message(1, 8), 0);
        x.link(0, 2, 1);
        x.stop(2);
        due("26 can't COME: not UP", x.message(1, 8), 0);
        x.start(2);
        x.stop(0);
        due("26 who sent it needn't be UP", x.message(1, 8), 1);
        for (int wrong : new int[] {-1, 2, LOW, HIGH}) {
            due("26 none such", x.message(wrong, 0), -2);
        }
        for (int wrong : new int[] {-1, 10, LOW, HIGH}) {
            due("26 no such what", x.message(0, wrong), -2);
        }
        x = after(7, "timeout 0; settle 99; stop 2; set 0 0 4; settle 99; compact 0; start 2; read 0 0;");
        int i = x.first(0, 2, 4);
        facts(x, i, "INSTALL", 0, 2, 4, 1, 2, 1, 0, 0, 1, 1);
        x.come(i);
        i = x.first(2, 0, 5);
        facts(x, i, "INSTALLED", 2, 0, 5, 1, 2, 0, 0, 0, 1, 1);
        x.come(i);
        due("7 heard by INSTALLED", x.store(0, 12), 2);
    }

    private static void first() {
        AgreedLog x = after(31, "timeout 0; timeout 1;");
        due("27", x.first(0, 1, 0), 0);
        due("27", x.first(0, 4, 0), 3);
        due("27", x.first(1, 0, 0), 4);
        due("27 another KIND", x.first(0, 1, 1), -1);
        due("27 another way", x.first(2, 1, 0), -1);
        due("27 to itself", x.first(1, 1, 0), -1);
        x.twice(0);
        due("27 the first", x.first(0, 1, 0), 0);
        x.lose(0);
        due("27 the other one", x.first(0, 1, 0), 7);
        for (int wrong : NO_STORES) {
            due("27 no such", x.first(wrong, 1, 0), -2);
            due("27 no such", x.first(1, wrong, 0), -2);
        }
        for (int wrong : new int[] {-1, 9, LOW, HIGH}) {
            due("27 no such KIND", x.first(0, 1, wrong), -2);
        }
        due("27 KIND 8", x.first(0, 1, 8), -1);
    }

    private static void linked() {
        AgreedLog x = after(31, "cut 3 4;");
        due("28 cut", x.linked(3, 4), 0);
        due("28 cut", x.linked(4, 3), 0);
        due("28 there", x.linked(2, 4), 1);
        for (int wrong : NO_STORES) {
            due("28 no such", x.linked(wrong, 1), -2);
            due("28 no such", x.linked(1, wrong), -2);
            due("28 -2 ahead of -3", x.linked(wrong, wrong), -2);
        }
        due("28 one", x.linked(3, 3), -3);
    }

    private static void alike() {
        AgreedLog x = after(31, "timeout 0; settle 99; set 0 0 1; set 0 0 2; come 0;");
        due("29", x.alike(0, 1), 2);
        due("29", x.alike(1, 0), 2);
        due("29", x.alike(0, 2), 1);
        x.settle(200);
        x.beat(0);
        x.settle(200);
        x.compact(0);
        due("29 the SNAPSHOT's last", x.alike(0, 1), 3);
        x.compact(1);
        due("29 two SNAPSHOTS", x.alike(0, 1), 3);
        x.propose(0, 1, 0, 3);
        x.come(0);
        due("29 behind them", x.alike(0, 1), 4);
        due("29 one lags", x.alike(0, 2), 3);
        x = after(31, "timeout 0; settle 99; cut 0 4; set 0 0 1; settle 99; compact 0; ");
        due("29 below the SNAPSHOT: none", x.alike(0, 4), 0);
        due("29 others", x.alike(1, 4), 1);
        // Entries of one TERM at a place above another one where they differ.
        x = after(31, "timeout 0; settle 99; cut 0 1; cut 0 2; cut 0 3; cut 0 4; set 0 0 1;");
        x.timeout(1);
        x.settle(200);
        due("29 TERMS differ at 2", x.alike(0, 1), 1);
        for (int wrong : NO_STORES) {
            due("29 no such", x.alike(wrong, 1), -2);
            due("29 no such", x.alike(1, wrong), -2);
        }
        due("29 one", x.alike(3, 3), -3);
    }

    private static void grants() {
        AgreedLog x = after(31, "timeout 0; settle 99; set 0 0 1; come 0; come 0;");
        due("30 the leader", x.grants(0), 31);
        due("30 as long", x.grants(1), 31);
        due("30 shorter", x.grants(3), 24);
        x.stop(4);
        due("30 UP or not", x.grants(3), 24);
        x.link(3, 4, 0);
        due("30 linked or not", x.grants(3), 24);
        x.stop(3);
        due("30 itself UP or not", x.grants(3), 24);
        x = after(31, "timeout 0; settle 99; cut 0 1;cut 0 2;cut 0 3;cut 0 4; set 0 0 1;set 0 0 1; timeout 1; settle 9;");
        due("30 a greater TERM is more than a longer LOG", x.grants(1), 31);
        due("30 and the other way", x.grants(0) >> 1 & 1, 0);
        x = after(7, "timeout 0; settle 99;");
        due("30 no MEMBERS, too", x.grants(0), 31);
        due("30 no MEMBERS, too", x.grants(3), 24);
        for (int wrong : NO_STORES) {
            due("30 no such", x.grants(wrong), -2);
        }
    }

    private static void electable() {
        AgreedLog x = after(31, "timeout 0; settle 99; set 0 0 1; come 0; come 0;");
        due("31 leader", x.electable(0), 1);
        due("31 as long", x.electable(2), 1);
        due("31 shorter", x.electable(3), 0);
        x.stop(1);
        x.stop(3);
        due("31 three are UP", x.electable(0), 1);
        x.link(0, 4, 0);
        due("31 two are linked", x.electable(0), 0);
        due("31 another", x.electable(2), 1);
        due("31 not UP", x.electable(1), 0);
        x = after(7, "stop 3;");
        due("31 no MEMBER", x.electable(4), 0);
        due("31 a MEMBER", x.electable(2), 1);
        x = after(3, "timeout 0; settle 99; change 0 28; settle 1;");
        due("31 JOINT", x.electable(0), 1);
        x.stop(2);
        due("31 two of three of the second", x.electable(0), 1);
        x.stop(3);
        due("31 one of three of the second", x.electable(0), 0);
        for (int wrong : NO_STORES) {
            due("31 no such", x.electable(wrong), -2);
        }
    }

    private static void holders() {
        AgreedLog x = after(31, "timeout 0; settle 99; set 0 0 1; come 0; come 1;");
        due("32", x.holders(0, 2), 1 | 2 | 8);
        due("32", x.holders(1, 2), 1 | 2 | 8);
        due("32", x.holders(0, 1), 31);
        due("32 it has none", x.holders(2, 2), -5);
        x.settle(200);
        x.compact(0);
        due("32 not in its LOG any more", x.holders(0, 2), -5);
        due("32 by a SNAPSHOT", x.holders(1, 2), 31);
        due("32 by a SNAPSHOT above", x.holders(1, 1), 31);
        for (int wrong : NO_STORES) {
            due("32 no such", x.holders(wrong, 1), -2);
        }
        for (int wrong : new int[] {0, -1, 3, 121, LOW, HIGH}) {
            due("32 none there", x.holders(1, wrong), -5);
        }
        // A SNAPSHOT isn't of the entry if another one was AGREED to there.
        x = after(31, "timeout 0; settle 99; cut 0 1;cut 0 2;cut 0 3;cut 0 4; set 0 0 1; timeout 1; settle 99; compact 1;");
        due("32 AGREED another", x.agreed(2, 0), 2);
        due("32 SNAPSHOT", x.store(1, 6), 2);
        due("32 its own", x.holders(0, 2), 1);
        due("32 the others'", x.holders(2, 2), 30);
    }

    private static void safe() {
        AgreedLog x = after(31, "timeout 0; settle 99; set 0 0 1; come 0;");
        due("33 two of five", x.safe(0, 2), 0);
        x.come(0);
        due("33 three of five", x.safe(0, 2), 1);
        due("33 not AGREED yet", x.store(0, 8), 1);
        due("33 by another's", x.safe(1, 2), 1);
        due("33 it has none", x.safe(4, 2), -5);
        x = after(3, "timeout 0; settle 99; change 0 28; come 0;");
        due("33 one set of two", x.safe(0, 2), 0);
        due("33 the first set alone", x.safe(0, 1), 0);
        x.come(0);
        due("33 one of three of the second", x.safe(0, 2), 0);
        x.come(0);
        due("33 both sets", x.safe(0, 2), 1);
        for (int wrong : NO_STORES) {
            due("33 no such", x.safe(wrong, 1), -2);
        }
        for (int wrong : new int[] {0, -1, 121, LOW, HIGH}) {
            due("33 none there", x.safe(0, wrong), -5);
        }
    }

    private static void agreed() {
        AgreedLog x = after(31, "timeout 0; settle 99; set 0 3 -8; settle 99;");
        int[] want = {1, 1, 3, -8};
        for (int what = 0; what < 4; what++) {
            due("34", x.agreed(2, what), want[what]);
        }
        due("34 KIND 0", x.agreed(1, 1), 0);
        for (int wrong : new int[] {0, -1, 3, 120, 121, LOW, HIGH}) {
            due("34 nothing was", x.agreed(wrong, 0), -1000);
        }
        for (int wrong : new int[] {-1, 4, LOW, HIGH}) {
            due("34 what", x.agreed(2, wrong), -1000);
        }
        Check.script(x, "stop 0; stop 1; stop 2; stop 3; stop 4;");
        due("34 stays", x.agreed(2, 3), -8);
        x = after(31, "timeout 0; settle 99; cut 0 1;cut 0 2;cut 0 3;cut 0 4; set 0 0 1;");
        due("34 one has it: not AGREED", x.agreed(2, 0), -1000);
    }

    private static void leaders() {
        AgreedLog x = after(31, "timeout 0; settle 99; timeout 3; settle 99; timeout 0; timeout 0; settle 99;");
        due("35", x.leaders(1), 1);
        due("35", x.leaders(2), 8);
        due("35 nobody", x.leaders(3), 0);
        due("35", x.leaders(4), 1);
        due("35", x.leaders(200), 0);
        for (int wrong : new int[] {0, -1, 201, LOW, HIGH}) {
            due("35 wrong", x.leaders(wrong), -3);
        }
        x.stop(0);
        due("35 ever", x.leaders(4), 1);
    }

    private static void leader() {
        AgreedLog x = after(31, "timeout 4;");
        due("36 none", x.leader(), -1);
        x.settle(200);
        due("36", x.leader(), 4);
        Check.script(x, "cut 4 0; cut 4 1; cut 4 2; cut 4 3; timeout 1; settle 99;");
        due("36 two", x.count(4), 18);
        due("36 of the greatest TERM", x.leader(), 1);
        x.stop(1);
        due("36 the other one", x.leader(), 4);
        x.stop(4);
        due("36 none", x.leader(), -1);
    }
}
