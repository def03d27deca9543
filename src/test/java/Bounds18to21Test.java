/** The boundary cases of promises 18 to 21: THE TAPE, SCRIPTS, FAULTS, what halted them. */
public final class Bounds18to21Test {
    private static final int NONE = AgreedLog.NONE;
    private static final String[] WORDS = {"timeout", "beat", "set", "add", "read", "hand", "change", "compact", "stop",
        "start", "cut", "join", "come", "lose", "twice", "settle", "careful"};
    private static final int[] NUMBERS = {1, 1, 3, 3, 2, 2, 2, 1, 1, 1, 2, 2, 1, 1, 1, 1, 1};

    private Bounds18to21Test() { }

    private static void due(String what, long got, long want) {
        Bounds.due(what, got, want);
    }

    private static void faulty(String text, int which, int place) {
        Bounds.faulty(text, which, place);
    }

    public static void main(String[] args) {
        Bounds.run(Bounds18to21Test.class, 18, 21);
    }

    private static AgreedLog tape(int bytes) {
        AgreedLog x = new AgreedLog();
        while (x.count(10) < bytes) {
            x.feed(0x20202020, 0x20202020, 0x20202020, 0x20202020, 0x20202020);
        }
        return x;
    }

    // ---- 18: feed

    static void p18_280BytesAnd20Are300_300AreRefusedByMinus4() {
        AgreedLog x = tape(260);
        due("280", x.feed(0, 0, 0, 0, 0), 280);
        due("300", x.feed(0, 0, 0, 0, 0), 300);
        due("more", x.feed(0, 0, 0, 0, 0), -4);
        due("stays", x.count(10), 300);
        Bounds.refused(() -> tape(300), y -> y.feed(1, 2, 3, 4, 5), -4);
    }

    static void p18_theTapeEmptyTakesThemAgain() {
        AgreedLog x = tape(300);
        due("done", x.script(300), 0);
        due("20", x.feed(0, 0, 0, 0, 0), 20);
    }

    static void p18_theHighestByteOfEachIntFirst() {
        AgreedLog x = new AgreedLog();
        // "careful 1;careful 0;" in five ints
        x.feed(0x63617265, 0x66756c20, 0x313b6361, 0x72656675, 0x6c20303b);
        due("both", x.script(20), 2);
        x.feed(0x63617265, 0x66756c20, 0x313b6361, 0x72656675, 0x6c20303b);
        due("one", x.script(10), 1);
        due("the first ten", x.count(9), 1);
    }

    static void p18_bytesFrom0To255() {
        for (int b = 0; b < 256; b++) {
            AgreedLog x = new AgreedLog();
            x.feed(0x20202000 | b, 0x20202020, 0x20202020, 0x20202020, 0x20202020);
            int want = b == ' ' ? 0 : -31;
            due("byte " + b, x.script(20), want);
            due("its place", x.fault(1), b == ' ' ? NONE : 3);
            x.feed(b << 24, 0, 0, 0, 0);
            due("byte " + b + " first", x.script(1), want);
        }
    }

    static void p18_itIsntAmongWhatCanBeUndone() {
        AgreedLog x = new AgreedLog();
        x.feed(0, 0, 0, 0, 0);
        due("nothing", x.count(7), 0);
        x.stop(0);
        x.feed(0, 0, 0, 0, 0);
        x.undo(1);
        due("THE TAPE stays", x.count(10), 40);
        x.image(0);
        x.feed(0, 0, 0, 0, 0);
        x.restore(0);
        due("THE TAPE stays", x.count(10), 60);
    }

    // ---- 19: script

    static void p19_nBelow0OrAboveWhatThereIsIsRefusedByMinus3() {
        for (int wrong : new int[] {-1, 1, Bounds.LOW, Bounds.HIGH}) {
            Bounds.refused(AgreedLog::new, x -> x.script(wrong), -3);
        }
        for (int wrong : new int[] {-1, 41, 300, 301}) {
            Bounds.refused(() -> tape(40), x -> x.script(wrong), -3);
        }
        Bounds.refused(() -> tape(300), x -> x.script(301), -3);
    }

    static void p19_nFrom0ToWhatThereIs() {
        due("none of none", new AgreedLog().script(0), 0);
        for (int n : new int[] {0, 1, 39, 40}) {
            AgreedLog x = tape(40);
            due("blanks alone", x.script(n), 0);
            due("THE TAPE is empty then", x.count(10), 0);
        }
        AgreedLog x = tape(300);
        due("300", x.script(300), 0);
    }

    static void p19_theFirstNBytesAlone() {
        AgreedLog x = new AgreedLog();
        Check.feed(x, "stop 1; stop 2; ???");
        due("two", x.script(15), 2);
        due("THE TAPE is empty then", x.count(10), 0);
        due("done", x.count(3), 25);
    }

    static void p19_whatCantStandThere_fault1AtIt() {
        faulty("foo 1;", 1, 0);
        faulty("1;", 1, 0);
        faulty(";", 1, 0);
        faulty("  }", 1, 2);
        faulty("{", 1, 0);
        faulty("-", 1, 0);
        faulty("stop 1;;", 1, 7);
        faulty("stop 1; stop x;", 1, 13);
        faulty("stop 1 2;", 1, 7);
        faulty("stop -1;", 1, 5);
        faulty("stop 1} ", 1, 6);
        faulty("STOP 1;", 1, 0);
        faulty("stop\t1;", 1, 4);
        faulty("stop 1;\n", 1, 7);
    }

    static void p19_theEnd_fault1AtHowManyBytesThereAre() {
        faulty("s", 1, 0);
        faulty("stop", 1, 4);
        faulty("stop ", 1, 5);
        faulty("stop 1", 1, 6);
        faulty("stop 1  ", 1, 8);
        faulty("set 0 0 -", 1, 9);
        faulty("times", 1, 5);
        faulty("times 2", 1, 7);
        faulty("times 2 {", 1, 9);
        faulty("times 2 { stop 1;", 1, 17);
        faulty("times 2 { times 3 { }", 1, 21);
    }

    static void p19_tooFewNumbersAndTooMany_ofEachWord() {
        for (int i = 0; i < WORDS.length; i++) {
            StringBuilder text = new StringBuilder(WORDS[i]);
            for (int n = 0; n < NUMBERS[i]; n++) {
                faulty(text + ";", 1, text.length());
                text.append(" 9");
            }
            faulty(text + " 9;", 1, text.length() + 1);
            faulty(text + " }", 1, text.length() + 1);
            AgreedLog x = new AgreedLog();
            due("as many as there must be", Check.script(x, text + ";") >= 0 ? 1 : 0, 1);
        }
    }

    static void p19_wordsGoOnAsLongAsTheyCan() {
        for (int i = 0; i < WORDS.length; i++) {
            faulty(WORDS[i] + "s 9 9 9;", 1, 0);
            faulty(" " + WORDS[i].substring(0, WORDS[i].length() - 1) + " 9 9 9;", 1, 1);
        }
        faulty("timess 2 { }", 1, 0);
        faulty("time 2 { }", 1, 0);
        faulty("stopstop 1;", 1, 0);
        faulty("stopz 1;", 1, 0);
        faulty("stopa 1;", 1, 0);
        faulty("stop` 1;", 1, 4);
        faulty("stop{ 1;", 1, 4);
        AgreedLog x = new AgreedLog();
        due("a digit right behind", Check.script(x, "stop1;start1;"), 2);
        due("blanks between all", Check.script(x, "   stop   1   ;   start   1   ;   "), 2);
    }

    static void p19_digitsGoOnAsLongAsTheyCan_1To3_4AreFault2AtTheFirst() {
        AgreedLog x = new AgreedLog();
        due("1 digit", Check.script(x, "stop 1;"), 1);
        due("2 digits", Check.script(x, "start 01;"), 1);
        due("3 digits", Check.script(x, "stop 001;"), 1);
        faulty("start 0001;", 2, 6);
        faulty("start 00000000000000000001;", 2, 6);
        faulty("set 0 0 1000;", 2, 8);
        faulty("set 0 0 -1000;", 2, 9);
        faulty("cut 0 9999;", 2, 6);
        faulty("come 1 2;", 1, 7);
    }

    static void p19_sAndCAndSoOnMayBeAnyNumbers_refusedAsItIsDone() {
        String[] texts = {"timeout 999;", "beat 999;", "set 999 0 0;", "set 0 999 0;", "add 5 0 0;", "read 0 4;", "hand 0 5;",
            "change 5 1;", "compact 5;", "stop 5;", "start 5;", "cut 0 5;", "join 999 0;", "come 999;", "lose 0;", "twice 999;"};
        for (String text : texts) {
            AgreedLog x = new AgreedLog();
            due(text, Check.script(x, text), 0);
            due(text + " no FAULT", x.fault(0), 0);
            due(text + " refused", x.halted(0), -2);
            due(text + " nothing can be UNDONE", x.count(7), 0);
        }
        for (String text : new String[] {"change 0 0;", "change 0 32;", "careful 2;", "careful 999;", "settle 0;", "settle 201;",
            "cut 1 1;", "join 1 1;", "hand 1 1;"}) {
            AgreedLog x = new AgreedLog();
            due(text, Check.script(x, text), 0);
            due(text + " refused", x.halted(0), -3);
        }
    }

    static void p19_vFromMinus999To999() {
        AgreedLog x = Bounds.led(1);
        for (int v : new int[] {-999, -1, 0, 1, 999}) {
            due("set " + v, Check.script(x, "set 0 1 " + v + ";"), 1);
            due("its number", x.cell(0, 1), v);
        }
        due("-0", Check.script(x, "set 0 1 -0;"), 1);
        due("0", x.cell(0, 1), 0);
        due("-007", Check.script(x, "add 0 1 -007;"), 1);
        due("-7", x.cell(0, 1), -7);
        due("right behind", Check.script(x, "add 0 1-3;"), 1);
        due("-10", x.cell(0, 1), -10);
    }

    static void p19_minusStandsRightAheadOfV_elseFault1BehindIt() {
        faulty("set 0 0 - 5;", 1, 9);
        faulty("set 0 0 --5;", 1, 9);
        faulty("set 0 0 -;", 1, 9);
        faulty("set 0 0 -x;", 1, 9);
        faulty("set 0 -0 5;", 1, 6);
        faulty("set -0 0 5;", 1, 4);
        faulty("add 0 0 5-;", 1, 9);
        faulty("times -1 { }", 1, 6);
        faulty("careful -1;", 1, 8);
        faulty("settle -1;", 1, 7);
    }

    static void p19_times1And50_0And51AreFault2AtItsFirstDigit() {
        AgreedLog x = new AgreedLog();
        due("1", Check.script(x, "times 1 { careful 1; }"), 1);
        due("50", Check.script(x, "times 50 { careful 1; }"), 50);
        due("050", Check.script(x, "times 050 { careful 1; }"), 50);
        faulty("times 0 { careful 1; }", 2, 6);
        faulty("times 51 { careful 1; }", 2, 6);
        faulty("times 999 { }", 2, 6);
        faulty("times   000 { }", 2, 8);
        faulty("times 0050 { }", 2, 6);
        faulty("careful 1; times 51 foo", 2, 17);
    }

    static void p19_timesWithoutASemicolonBehind() {
        faulty("times 2 { };", 1, 11);
        faulty("times 2 ; { }", 1, 8);
        faulty("times 2 careful 1;", 1, 8);
        faulty("times { }", 1, 6);
        faulty("times 2 2 { }", 1, 8);
        faulty("times 2 { careful 1 }", 1, 20);
        AgreedLog x = new AgreedLog();
        due("one behind the other", Check.script(x, "times 2{careful 1;}times 3{careful 0;}careful 1;"), 6);
    }

    static void p19_timesWith0Acts() {
        AgreedLog x = new AgreedLog();
        due("none", Check.script(x, "times 50 { }"), 0);
        due("none within one another", Check.script(x, "times 50 { times 50 { times 50 { } } times 2 { } }"), 0);
        due("nothing can be UNDONE", x.count(7), 0);
        due("one behind", Check.script(x, "times 50 { } careful 1; times 50 { times 9 { } }"), 1);
        due("one within", Check.script(x, "times 3 { times 50 { } careful 1; times 50 { } }"), 3);
    }

    static void p19_3OpenWithinOneAnother_theFourthIsFault3() {
        AgreedLog x = new AgreedLog();
        due("3", Check.script(x, "times 2 { times 2 { times 2 { careful 1; } } }"), 8);
        due("closed ones don't count", Check.script(x,
            "times 1 { times 1 { times 1 { } times 1 { } } times 1 { times 1 { } } } times 1 { careful 0; }"), 1);
        String four = "times 2 { times 2 { times 2 { times 2 { careful 1; } } } }";
        faulty(four, 3, 38);
        faulty("times 1{times 1{times 1{times 1{", 3, 31);
        // Ahead of the fourth { its N is read, and what can't stand there.
        faulty("times 1{times 1{times 1{times 51{", 2, 30);
        faulty("times 1{times 1{times 1{times 1;", 1, 31);
        faulty("times 1{times 1{times 1{times 1", 1, 31);
    }

    static void p19_theFirstFaultAlongTheTextIsTold() {
        faulty("stop 1234; foo;", 2, 5);
        faulty("foo; stop 1234;", 1, 0);
        faulty("set 12345 x;", 2, 4);
        faulty("times 51 x", 2, 6);
        faulty("stop 1234", 2, 5);
    }

    static void p19_aFaultEmptiesTheTapeAndChangesNothingElse() {
        AgreedLog x = new AgreedLog();
        x.image(1);
        Check.script(x, "stop 1; stop 1;");
        int told = x.count(7);
        Check.feed(x, "stop 2; stop 3; stop");
        due("a FAULT", x.script(20), -31);
        due("nothing was done", x.count(3), 29);
        due("THE TAPE", x.count(10), 0);
        due("halted() stays", x.halted(0), -5);
        due("its place stays", x.halted(1), 8);
        due("nothing more to UNDO", x.count(7), told);
        due("UNDO", x.undo(1), 0);
        due("as it was", x.count(3), 31);
    }

    static void p19_till400Were() {
        due("399", Check.script(new AgreedLog(), "times 21 { times 19 { careful 1; } }"), 399);
        due("400", Check.script(new AgreedLog(), "times 8 { times 50 { careful 1; } }"), 400);
        due("400 of 401", Check.script(new AgreedLog(), "times 8 { times 50 { careful 1; } } careful 1;"), 400);
        due("400 of 125000", Check.script(new AgreedLog(), "times 50 { times 50 { times 50 { careful 1; } } }"), 400);
    }

    static void p19_the401stIsntDone_norRefused() {
        AgreedLog x = new AgreedLog();
        due("400", Check.script(x, "times 8 { times 50 { careful 1; } } careful 0;"), 400);
        due("not done", x.count(9), 1);
        due("400", Check.script(x, "times 8 { times 50 { careful 1; } } start 0;"), 400);
        due("not refused", x.halted(0), 0);
        due("no place", x.halted(1), NONE);
        due("399", Check.script(x, "times 21 { times 19 { careful 1; } } start 0;"), 399);
        due("the 400th is refused", x.halted(0), -5);
    }

    static void p19_doneTillOneIsRefused() {
        AgreedLog x = new AgreedLog();
        due("two", Check.script(x, "stop 1; stop 2; stop 1; stop 3;"), 2);
        due("UP", x.count(3), 25);
        due("the code", x.halted(0), -5);
        due("its word", x.halted(1), 16);
        due("as one", x.count(7), 1);
        due("UNDONE as a whole", x.undo(1), 0);
        due("all UP", x.count(3), 31);
        due("within times", Check.script(x, "times 5 { stop 1; start 1; stop 1; }"), 3);
        due("the second time", x.halted(1), 10);
    }

    static void p19_ofWhichNoneWasDone_nothingCanBeUndone() {
        AgreedLog x = new AgreedLog();
        due("none", Check.script(x, "start 0;"), 0);
        due("none", Check.script(x, ""), 0);
        due("nothing", x.count(7), 0);
        due("one", Check.script(x, "careful 0; start 0;"), 1);
        due("one", x.count(7), 1);
    }

    static void p19_actsThatAnswer0ArentRefused() {
        AgreedLog x = Bounds.after(31, "timeout 0; stop 1;");
        due("all", Check.script(x, "cut 2 3; cut 2 3; join 3 2; join 3 2; careful 0; come 0; lose 0; lose 0; lose 0; stop 4; start 4;"), 11);
        due("none refused", x.halted(0), 0);
    }

    static void p19_300Bytes() {
        StringBuilder text = new StringBuilder();
        while (text.length() < 300) {
            text.append("careful 1;");
        }
        AgreedLog x = new AgreedLog();
        due("30 ACTS", Check.script(x, text.toString()), 30);
        text.setCharAt(299, ' ');
        due("the last ; isn't there", Check.script(x, text.toString()), -31);
        due("the end", x.fault(1), 300);
        StringBuilder open = new StringBuilder();
        while (open.length() < 300) {
            open.append("times 9{} ");
        }
        due("30 times nothing", Check.script(x, open.toString()), 0);
        due("no FAULT", x.fault(0), 0);
    }

    // ---- 20: fault

    static void p20_aheadOfAny() {
        due("0", new AgreedLog().fault(0), 0);
        due("NONE", new AgreedLog().fault(1), NONE);
    }

    static void p20_othersAreNone() {
        for (int wrong : new int[] {-1, 2, Bounds.LOW, Bounds.HIGH}) {
            Bounds.answers(new AgreedLog(), x -> x.fault(wrong), NONE);
            AgreedLog y = new AgreedLog();
            Check.script(y, "stop;");
            Bounds.answers(y, x -> x.fault(wrong), NONE);
        }
    }

    static void p20_scriptsThatReadNoBytesLeaveIt() {
        AgreedLog x = new AgreedLog();
        Check.script(x, "stop 1234;");
        due("FAULT", x.fault(0), 2);
        x.feed(0, 0, 0, 0, 0);
        due("-3", x.script(21), -3);
        due("-3", x.script(-1), -3);
        due("FAULT", x.fault(0), 2);
        due("its place", x.fault(1), 5);
    }

    static void p20_ofTheLatestOne() {
        AgreedLog x = new AgreedLog();
        Check.script(x, "stop;");
        due("FAULT", x.fault(0), 1);
        due("its place", x.fault(1), 4);
        Check.script(x, "stop 1;");
        due("none", x.fault(0), 0);
        due("NONE", x.fault(1), NONE);
        Check.script(x, "stop;");
        Check.script(x, "stop 1;");
        due("one that is refused has none", x.fault(0), 0);
        due("NONE", x.fault(1), NONE);
    }

    static void p20_undoBeginAndRestoreLeaveIt() {
        AgreedLog x = new AgreedLog();
        x.image(0);
        x.stop(0);
        Check.script(x, "stop;");
        x.undo(1);
        due("UNDO", x.fault(0), 1);
        x.begin(31);
        due("begin()", x.fault(1), 4);
        x.restore(0);
        due("restore()", x.fault(1), 4);
    }

    // ---- 21: halted

    static void p21_aheadOfAny() {
        due("0", new AgreedLog().halted(0), 0);
        due("NONE", new AgreedLog().halted(1), NONE);
    }

    static void p21_othersAreNone() {
        for (int wrong : new int[] {-1, 2, Bounds.LOW, Bounds.HIGH}) {
            Bounds.answers(new AgreedLog(), x -> x.halted(wrong), NONE);
            AgreedLog y = new AgreedLog();
            Check.script(y, "start 1;");
            Bounds.answers(y, x -> x.halted(wrong), NONE);
        }
    }

    static void p21_eachCode() {
        String[] texts = {"stop 5;", "careful 2;", "start 0;"};
        int[] codes = {-2, -3, -5};
        for (int i = 0; i < 3; i++) {
            AgreedLog x = new AgreedLog();
            Check.script(x, "  " + texts[i]);
            due(texts[i], x.halted(0), codes[i]);
            due("its word", x.halted(1), 2);
        }
        AgreedLog x = Bounds.aloneWithLast(100);
        Check.script(x, "careful 0; set 0 0 0;");
        due("-4", x.halted(0), -4);
        due("its word", x.halted(1), 11);
    }

    static void p21_ofTheLatestThatHadNoFault() {
        AgreedLog x = new AgreedLog();
        Check.script(x, "start 0;");
        due("refused", x.halted(0), -5);
        due("at 0", x.halted(1), 0);
        Check.script(x, "start;");
        due("a FAULT leaves it", x.halted(0), -5);
        x.feed(0, 0, 0, 0, 0);
        x.script(21);
        due("-3 leaves it", x.halted(0), -5);
        x.script(0);
        due("none of no ACTS", x.halted(0), 0);
        due("NONE", x.halted(1), NONE);
        Check.script(x, "start 0;");
        Check.script(x, "stop 0;");
        due("none", x.halted(0), 0);
        due("NONE", x.halted(1), NONE);
    }

    static void p21_undoBeginAndRestoreLeaveIt() {
        AgreedLog x = new AgreedLog();
        x.image(0);
        Check.script(x, "stop 0; stop 0;");
        x.undo(1);
        due("UNDO", x.halted(0), -5);
        x.begin(31);
        due("begin()", x.halted(1), 8);
        x.restore(0);
        due("restore()", x.halted(1), 8);
    }
}
