import java.util.function.Supplier;
import java.util.function.ToIntFunction;

/** The boundary cases of promises 43 to 46: back. */
public final class Bounds43to46Test {
    private static final int NONE = AgreedLog.NONE;

    private Bounds43to46Test() { }

    private static void due(String what, long got, long want) {
        Bounds.due(what, got, want);
    }

    public static void main(String[] args) {
        Bounds.run(Bounds43to46Test.class, 43, 46);
    }

    /** So many calls, each of which stops or starts another one. */
    private static AgreedLog calls(int n) {
        AgreedLog x = new AgreedLog();
        for (int i = 0; i < n; i++) {
            if (i / 5 % 2 == 0) {
                x.stop(i % 5);
            } else {
                x.start(i % 5);
            }
        }
        return x;
    }

    // ---- 43: undo

    static void p43_0And9AreRefusedByMinus3() {
        for (int wrong : new int[] {0, 9, -1, Bounds.LOW, Bounds.HIGH}) {
            Bounds.refused(() -> calls(8), x -> x.undo(wrong), -3);
            Bounds.refused(() -> calls(20), x -> x.undo(wrong), -3);
            Bounds.refused(AgreedLog::new, x -> x.undo(wrong), -3);
        }
    }

    static void p43_moreThanCanBeIsRefusedByMinus3() {
        for (int n = 0; n <= 8; n++) {
            int told = n;
            if (n < 8) {
                Bounds.refused(() -> calls(told), x -> x.undo(told + 1), -3);
            }
            if (n > 0) {
                due("all " + n, calls(n).undo(n), 0);
                due("as a new one", calls(n).count(3) == 31 ? 1 : 0, 0);
                AgreedLog x = calls(n);
                x.undo(n);
                due("UP", x.count(3), 31);
            }
        }
    }

    static void p43_howManyStillCanBe() {
        for (int n = 1; n <= 8; n++) {
            due(n + " of 8", calls(8).undo(n), 8 - n);
            AgreedLog x = calls(8);
            x.undo(n);
            due("count", x.count(7), 8 - n);
            due("as ahead of them", x.count(3), calls(8 - n).count(3));
        }
    }

    static void p43_8AtMost_theEldestIsForgotten() {
        for (int n = 7; n <= 12; n++) {
            AgreedLog x = calls(n);
            due("of " + n, x.count(7), Math.min(n, 8));
            x.undo(Math.min(n, 8));
            due("as ahead of the eldest kept", x.count(3), calls(Math.max(0, n - 8)).count(3));
            due("no more", x.undo(1), -3);
        }
    }

    static void p43_oneByOneIsAsAllAtOnce() {
        AgreedLog x = calls(20);
        AgreedLog y = calls(20);
        for (int i = 0; i < 8; i++) {
            due("one", x.undo(1), 7 - i);
        }
        y.undo(8);
        Bounds.same("alike", Bounds.facts(x), Bounds.facts(y));
    }

    static void p43_goesOnFromThere() {
        AgreedLog x = calls(10);
        x.undo(3);
        due("five left", x.count(7), 5);
        x.careful(1);
        due("six", x.count(7), 6);
        x.undo(6);
        due("as behind the second call", x.count(3), calls(2).count(3));
        due("not CAREFUL", x.count(9), 0);
    }

    private static void undone(String what, AgreedLog x, ToIntFunction<AgreedLog> call) {
        int[] before = Bounds.facts(x);
        int told = x.count(7);
        due(what + " isn't refused", call.applyAsInt(x) >= 0 ? 1 : 0, 1);
        due(what + " can be UNDONE", x.count(7), told + 1);
        due(what + " UNDONE", x.undo(1), told);
        Bounds.same(what + ": all as it was", before, Bounds.facts(x));
    }

    static void p43_eachCallThatToldSomething() {
        undone("begin", Bounds.led(31, "set 0 0 1;"), x -> x.begin(3));
        undone("careful", Bounds.led(31), x -> x.careful(1));
        undone("timeout", Bounds.led(31), x -> x.timeout(1));
        undone("timeout, CAREFUL", Bounds.led(31, "careful 1;"), x -> x.timeout(1));
        undone("beat", Bounds.led(31), x -> x.beat(0));
        undone("propose", Bounds.led(1), x -> x.propose(0, 1, 2, 5));
        undone("read", Bounds.led(31), x -> x.read(0, 1));
        undone("hand", Bounds.led(31), x -> x.hand(0, 1));
        undone("change", Bounds.led(31), x -> x.change(0, 7));
        undone("compact", Bounds.led(31, "set 0 0 4; settle 99;"), x -> x.compact(0));
        undone("stop", Bounds.led(31, "set 0 0 4; settle 99; read 0 0;"), x -> x.stop(0));
        undone("start", Bounds.led(31, "stop 1;"), x -> x.start(1));
        undone("link", Bounds.led(31), x -> x.link(3, 4, 0));
        undone("come", Bounds.led(31, "set 0 0 1;"), x -> x.come(3));
        undone("come, LOST", Bounds.led(31, "set 0 0 1; stop 4;"), x -> x.come(3));
        undone("lose", Bounds.led(31, "set 0 0 1;"), x -> x.lose(0));
        undone("twice", Bounds.led(31, "set 0 0 1;"), x -> x.twice(0));
        undone("settle", Bounds.led(31, "set 0 0 1;"), x -> x.settle(200));
    }

    /** What SNAPSHOTS, messages and MEMBERS hold that no call tells at once. */
    private static void holdsAsJointInASnapshot(Supplier<AgreedLog> back) {
        AgreedLog x = back.get();
        due("MEMBERS by an entry that isn't AGREED", x.change(0, 31), -5);
        Bounds.come(x, 0, 2, 4);
        due("MEMBERS of the INSTALL", x.store(2, 9), 15);
        due("its second set", x.store(2, 10), 7);
        due("its CELL 0", x.cell(2, 0), 5);
        due("its CELL 3", x.cell(2, 3), 6);
        x = back.get();
        Bounds.come(x, 0, 1, 2);
        due("the entry of the TAKE", x.entry(1, 5, 1), 4);
        due("its set", x.entry(1, 5, 2), 7);
        x = back.get();
        x.beat(0);
        Bounds.lose(x, 0, 2, 4);
        Bounds.come(x, 0, 2, 4);
        due("MEMBERS of the SNAPSHOT", x.store(2, 9), 15);
        due("its second set", x.store(2, 10), 7);
        x = back.get();
        x.stop(0);
        due("AGREED", x.store(0, 8), 4);
        due("CELL 0 of the SNAPSHOT", x.cell(0, 0), 5);
        due("CELL 3 of the SNAPSHOT", x.cell(0, 3), 6);
    }

    /** Two calls: another SNAPSHOT, other CELLS, other MEMBERS; then all anew. */
    private static void goOn(AgreedLog x) {
        Bounds.play(x, "settle 99; set 0 0 8; add 0 3 9; settle 99; compact 0; change 0 3; settle 99; compact 0;");
        due("MEMBERS", x.store(0, 9), 3);
        x.begin(3);
    }

    static void p43_whatSnapshotsAndMessagesHoldToo() {
        holdsAsJointInASnapshot(() -> {
            AgreedLog x = Bounds.jointInASnapshot();
            goOn(x);
            x.undo(2);
            return x;
        });
    }

    static void p43_aReadWithItsCellAndNumber() {
        AgreedLog x = Bounds.led(7, "set 0 2 5; settle 99; read 0 2;");
        x.begin(31);
        x.undo(1);
        due("it waits", x.store(0, 12), 1);
        due("CELL", x.store(0, 13), 2);
        due("heard", x.store(0, 16), 1);
        x.settle(200);
        due("answered", x.store(0, 12), 2);
        x.begin(31);
        x.undo(1);
        due("answered", x.store(0, 12), 2);
        due("CELL", x.store(0, 13), 2);
        due("the number", x.store(0, 14), 5);
    }

    static void p43_alsoIfNothingChanges() {
        undone("careful", new AgreedLog(), x -> x.careful(0));
        undone("link", new AgreedLog(), x -> x.link(0, 1, 1));
        undone("begin", new AgreedLog(), x -> x.begin(31));
        undone("beat alone", Bounds.led(1), x -> x.beat(0));
    }

    static void p43_aScriptAsOne_allButTheTapeTheFaultAndHalted() {
        AgreedLog x = Bounds.led(31);
        int[] before = Bounds.facts(x);
        int told = x.count(7);
        due("five, then one is refused", Check.script(x, "set 0 0 1; settle 9; stop 3; careful 1; cut 1 2; stop 3;"), 5);
        due("as one", x.count(7), told + 1);
        x.feed(1, 2, 3, 4, 5);
        x.undo(1);
        due("THE TAPE stays", x.count(10), 20);
        due("halted() stays", x.halted(0), -5);
        due("its place", x.halted(1), 49);
        int[] now = Bounds.facts(x);
        for (int i = 5; i < now.length; i++) {
            due("all else is as it was", now[i], before[i]);
        }
    }

    static void p43_callsThatOnlyAskOrAreRefusedArentAmongThem() {
        AgreedLog x = Bounds.led(31, "set 0 0 1;");
        int told = x.count(7);
        x.feed(0, 0, 0, 0, 0);
        x.script(20);
        x.script(0);
        x.image(0);
        x.store(0, 0);
        x.wins(1);
        x.rounds();
        x.storm(0);
        x.could(0, 3);
        x.stop(5);
        x.undo(9);
        x.restore(1);
        due("none of them", x.count(7), told);
    }

    // ---- 44: image

    static void p44_minus1And2AreRefusedByMinus2() {
        for (int wrong : new int[] {-1, 2, Bounds.LOW, Bounds.HIGH}) {
            Bounds.refused(() -> calls(3), x -> x.image(wrong), -2);
            Bounds.refused(() -> {
                AgreedLog x = calls(3);
                x.image(0);
                x.image(1);
                x.stop(4);
                return x;
            }, x -> x.image(wrong), -2);
        }
    }

    static void p44_images0And1ApartFromEachOther() {
        AgreedLog x = new AgreedLog();
        x.stop(0);
        due("0", x.image(0), 0);
        x.stop(1);
        due("1", x.image(1), 0);
        x.stop(2);
        x.restore(0);
        due("as it was", x.count(3), 30);
        x.restore(1);
        due("as it was", x.count(3), 28);
    }

    static void p44_overAnOlderOne() {
        AgreedLog x = new AgreedLog();
        x.image(0);
        x.stop(0);
        x.image(0);
        x.stop(1);
        x.restore(0);
        due("the later one", x.count(3), 30);
    }

    static void p44_itChangesNothing_andCantBeUndone() {
        AgreedLog x = Bounds.led(31, "set 0 0 1; read 0 0;");
        int[] before = Bounds.facts(x);
        x.image(1);
        Bounds.same("nothing has changed", before, Bounds.facts(x));
        x.undo(1);
        x.image(1);
        due("what can be UNDONE stays", x.count(7), before[5 + 7] - 1);
    }

    static void p44_ofANewObject() {
        AgreedLog x = new AgreedLog();
        int[] before = Bounds.facts(x);
        x.image(0);
        Bounds.play(x, "timeout 0; settle 99; set 0 0 1; cut 0 1; stop 2; careful 1;");
        x.restore(0);
        Bounds.same("as at first", before, Bounds.facts(x));
    }

    // ---- 45: restore

    static void p45_minus1And2AreRefusedByMinus2() {
        for (int wrong : new int[] {-1, 2, Bounds.LOW, Bounds.HIGH}) {
            Bounds.refused(() -> calls(3), x -> x.restore(wrong), -2);
        }
    }

    static void p45_noneWasMadeIsRefusedByMinus6() {
        Bounds.refused(AgreedLog::new, x -> x.restore(0), -6);
        Bounds.refused(AgreedLog::new, x -> x.restore(1), -6);
        Bounds.refused(() -> {
            AgreedLog x = calls(3);
            x.image(0);
            return x;
        }, x -> x.restore(1), -6);
        Bounds.refused(() -> {
            AgreedLog x = calls(3);
            x.image(1);
            return x;
        }, x -> x.restore(0), -6);
    }

    static void p45_nothingCanBeUndoneBehind() {
        AgreedLog x = calls(8);
        x.image(0);
        due("0", x.restore(0), 0);
        due("none", x.count(7), 0);
        due("none", x.undo(1), -3);
        x.start(4);
        x.stop(4);
        due("but what comes behind", x.undo(2), 0);
    }

    static void p45_asOftenAsOneLikes() {
        AgreedLog x = Bounds.led(31, "set 0 0 1; read 0 0; cut 1 2; stop 3; careful 1;");
        x.image(1);
        x.restore(1);
        int[] before = Bounds.facts(x);
        for (int i = 0; i < 3; i++) {
            x.settle(200);
            x.begin(5);
            due("0", x.restore(1), 0);
            Bounds.same("as it was", before, Bounds.facts(x));
        }
    }

    static void p45_theTapeTheFaultAndHaltedStay() {
        AgreedLog x = new AgreedLog();
        x.image(0);
        Check.script(x, "stop 1; stop 1;");
        Check.script(x, "stop;");
        x.feed(0, 0, 0, 0, 0);
        x.restore(0);
        due("THE TAPE", x.count(10), 20);
        due("the FAULT", x.fault(1), 4);
        due("halted", x.halted(1), 8);
        due("all UP", x.count(3), 31);
    }

    static void p45_whatSnapshotsAndMessagesHoldToo() {
        for (int i = 0; i < 2; i++) {
            int which = i;
            holdsAsJointInASnapshot(() -> {
                AgreedLog x = Bounds.jointInASnapshot();
                x.image(which);
                goOn(x);
                x.restore(which);
                return x;
            });
        }
    }

    static void p45_aReadWithItsCellAndNumber() {
        AgreedLog x = Bounds.led(7, "set 0 2 5; settle 99; read 0 2; ");
        x.image(0);
        x.settle(200);
        x.image(1);
        x.begin(31);
        x.restore(0);
        due("it waits", x.store(0, 12), 1);
        due("CELL", x.store(0, 13), 2);
        due("the number", x.store(0, 14), 0);
        x.restore(1);
        due("answered", x.store(0, 12), 2);
        due("CELL", x.store(0, 13), 2);
        due("the number", x.store(0, 14), 5);
    }

    static void p45_undoLeavesImages() {
        AgreedLog x = new AgreedLog();
        x.stop(0);
        x.image(0);
        x.undo(1);
        due("all UP", x.count(3), 31);
        due("0", x.restore(0), 0);
        due("as it was", x.count(3), 30);
    }

    // ---- 46: count

    static void p46_whatMinus1And11AreNone() {
        for (int wrong : new int[] {-1, 11, Bounds.LOW, Bounds.HIGH}) {
            Bounds.answers(calls(3), x -> x.count(wrong), NONE);
        }
    }

    static void p46_what0_waiting0To60() {
        AgreedLog x = Bounds.led(31);
        due("0", x.count(0), 0);
        Bounds.fillTo(x, 0, 60);
        x.beat(0);
        due("60", x.count(0), 60);
    }

    static void p46_what1And2_lostOnesDidntCome() {
        AgreedLog x = Bounds.after(31, "cut 0 1; timeout 0; stop 2; cut 0 3;");
        due("LOST at once", x.count(1), 1);
        due("none CAME", x.count(2), 0);
        x.settle(3);
        due("two LOST as they came", x.count(1), 3);
        due("one CAME", x.count(2), 1);
        x.lose(0);
        due("LOST by lose()", x.count(1), 4);
        due("one CAME", x.count(2), 1);
    }

    static void p46_what3And4_noneAndAll() {
        AgreedLog x = calls(5);
        due("none UP", x.count(3), 0);
        due("no leader", x.count(4), 0);
        x = Bounds.after(16, "timeout 4;");
        due("all UP", x.count(3), 31);
        due("leader", x.count(4), 16);
    }

    static void p46_what4_severalLeaders() {
        AgreedLog x = Bounds.led(31, "cut 0 1; cut 0 2; cut 0 3; cut 0 4; timeout 1; settle 99;");
        due("0 and 1", x.count(4), 3);
    }

    static void p46_what5And6_theGreatestOfAll_upOrNot() {
        AgreedLog x = Bounds.led(31, "timeout 4; stop 4;");
        due("TERM", x.count(5), 2);
        due("AGREED", x.count(6), 1);
        AgreedLog y = new AgreedLog();
        Bounds.raiseTerm(y, 2, 200);
        due("TERM 200", y.count(5), 200);
        due("AGREED 0", y.count(6), 0);
        due("AGREED 120", Bounds.aloneWithLast(120).count(6), 120);
        AgreedLog z = Bounds.led(31, "set 0 0 1; settle 99; compact 0; stop 0;");
        due("by a SNAPSHOT", z.count(6), 2);
    }

    static void p46_what5And6_ofEachStore() {
        for (int s = 0; s < 5; s++) {
            AgreedLog x = Bounds.after(1 << s, "timeout " + s + "; set " + s + " 0 1;");
            due("TERM", x.count(5), 1);
            due("AGREED", x.count(6), 2);
        }
    }

    static void p46_what7_0To8() {
        for (int n = 0; n <= 10; n++) {
            due("of " + n, calls(n).count(7), Math.min(n, 8));
        }
    }

    static void p46_what8_theFirstSetStaysOverChanges() {
        AgreedLog x = Bounds.led(7, "change 0 31; settle 99;");
        due("MEMBERS", x.store(0, 9), 31);
        due("the first set", x.count(8), 7);
    }

    static void p46_what9And10_carefulAndTheTape() {
        AgreedLog x = Bounds.after(31, "careful 1;");
        due("CAREFUL", x.count(9), 1);
        x.careful(0);
        due("not", x.count(9), 0);
        due("no bytes", x.count(10), 0);
        for (int i = 1; i <= 15; i++) {
            x.feed(0, 0, 0, 0, 0);
            due("bytes", x.count(10), 20 * i);
        }
        x.feed(0, 0, 0, 0, 0);
        due("300", x.count(10), 300);
    }
}
