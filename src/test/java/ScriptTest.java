/** Promises 18 to 21: THE TAPE, SCRIPTS, their FAULTS, and what halted them. */
public final class ScriptTest {
    private static final int NONE = AgreedLog.NONE;

    private static void due(String what, long got, long want) {
        Check.due(what, got, want);
    }

    public static void main(String[] args) {
        feed();
        bytes();
        numbersOfBytes();
        everyWord();
        everyWordAsItsCall();
        blanks();
        loops();
        loopsOpen();
        fourHundred();
        faults();
        halts();
        undone();
        Check.end("ScriptTest");
    }

    private static void feed() {
        AgreedLog x = new AgreedLog();
        for (int i = 1; i <= 15; i++) {
            due("18 bytes", x.feed(0, 0, 0, 0, 0), 20 * i);
        }
        due("18 more than 300", x.feed(1, 2, 3, 4, 5), -4);
        due("18 stays", x.count(10), 300);
        due("18 can't be UNDONE", x.count(7), 0);
        due("19 zeros can't stand", x.script(300), -31);
        due("19 THE TAPE is empty then", x.count(10), 0);
        due("18 again", x.feed(0, 0, 0, 0, 0), 20);
        x.timeout(0);
        x.undo(1);
        due("18 UNDO leaves THE TAPE", x.count(10), 20);
        x.begin(31);
        due("18 begin() leaves THE TAPE", x.count(10), 20);
        x.image(0);
        x.feed(0, 0, 0, 0, 0);
        x.restore(0);
        due("18 an IMAGE leaves THE TAPE", x.count(10), 40);
    }

    private static void bytes() {
        AgreedLog x = new AgreedLog();
        // "timeout 3;" and ten blanks, the highest byte of each int first.
        x.feed(0x74696d65, 0x6f757420, 0x333b2020, 0x20202020, 0x20202020);
        due("18 the highest first", x.script(20), 1);
        due("18 it was done", x.store(3, 3), 1);
        x.feed(0xffffffff, 0x80808080, 0, 0, 0);
        due("18 bytes above 127", x.script(1), -31);
        due("20 at it", x.fault(1), 0);
    }

    private static void numbersOfBytes() {
        AgreedLog x = new AgreedLog();
        due("20 ahead of any", x.fault(0), 0);
        due("20 ahead of any", x.fault(1), NONE);
        due("21 ahead of any", x.halted(0), 0);
        due("21 ahead of any", x.halted(1), NONE);
        Check.feed(x, "timeout 0;");
        for (int wrong : new int[] {-1, 21, Integer.MIN_VALUE, Integer.MAX_VALUE}) {
            due("19 n", x.script(wrong), -3);
        }
        due("19 THE TAPE stays", x.count(10), 20);
        due("19 n of them", x.script(9), -31);
        due("20 the end", x.fault(1), 9);
        due("19 all are gone", x.count(10), 0);
        due("19 nothing done", x.count(0), 0);
        due("19 none there", x.script(1), -3);
        due("20 stays, as no bytes were read", x.fault(1), 9);
        due("19 none is a SCRIPT", x.script(0), 0);
        due("20 without a FAULT", x.fault(0), 0);
        due("20 without a FAULT", x.fault(1), NONE);
        Check.feed(x, "timeout 0;");
        due("19 of some the first none", x.script(0), 0);
        due("19 all are gone", x.count(10), 0);
        for (int other : new int[] {-1, 2, Integer.MIN_VALUE, Integer.MAX_VALUE}) {
            due("20 others", x.fault(other), NONE);
            due("21 others", x.halted(other), NONE);
        }
    }

    private static void everyWord() {
        String[] words = {"timeout", "beat", "read", "hand", "change", "compact", "stop", "start", "cut", "join",
            "come", "lose", "twice", "settle", "careful", "set", "add"};
        int[] numbers = {1, 1, 2, 2, 2, 1, 1, 1, 2, 2, 1, 1, 1, 1, 1, 3, 3};
        for (int i = 0; i < words.length; i++) {
            StringBuilder text = new StringBuilder(words[i]);
            for (int n = 0; n < numbers[i]; n++) {
                AgreedLog x = new AgreedLog();
                due("19 too few numbers: " + text, Check.script(x, text + ";"), -31);
                due("20 at the ;: " + text, x.fault(1), text.length());
                text.append(" 999");
            }
            AgreedLog x = new AgreedLog();
            due("19 refused as it is done: " + text, Check.script(x, text + ";"), 0);
            due("21 a code: " + text, x.halted(0) < 0 ? 1 : 0, 1);
            due("21 its word: " + text, x.halted(1), 0);
            due("19 too many numbers: " + text, Check.script(x, text + " 1;"), -31);
            due("20 at it: " + text, x.fault(1), text.length() + 1);
            due("19 no ; behind: " + text, Check.script(x, text.toString()), -31);
            due("20 the end: " + text, x.fault(1), text.length());
            due("19 a longer word", Check.script(x, words[i] + "s 1;"), -31);
            due("20 at the word", x.fault(1), 0);
            due("19 a shorter word", Check.script(x, " " + words[i].substring(0, words[i].length() - 1) + " 1;"), -31);
            due("20 at the word", x.fault(1), 1);
        }
    }

    private static void everyWordAsItsCall() {
        AgreedLog x = new AgreedLog();
        due("careful", Check.script(x, "careful 1;"), 1);
        due("careful", x.count(9), 1);
        due("careful", Check.script(x, "careful 0;timeout 0;settle 99;"), 3);
        due("timeout, settle", x.leader(), 0);
        due("set, add", Check.script(x, "set 0 1 -20; add 0 1 3; settle 99;"), 3);
        due("set, add", x.cell(0, 1), -17);
        due("read", Check.script(x, "read 0 1;"), 1);
        due("read", x.store(0, 12), 1);
        due("beat", Check.script(x, "settle 99;beat 0;"), 2);
        due("beat", x.count(0), 4);
        due("hand", Check.script(x, "settle 99;hand 0 4;"), 2);
        due("hand", x.first(0, 4, 6), 0);
        due("lose", Check.script(x, "lose 0;"), 1);
        due("lose", x.count(0), 0);
        due("change", Check.script(x, "change 0 7;"), 1);
        due("change", x.store(0, 10), 7);
        due("compact", Check.script(x, "settle 99;compact 1;"), 2);
        due("compact", x.store(1, 6) > 0 ? 1 : 0, 1);
        due("stop", Check.script(x, "stop 3;"), 1);
        due("stop", x.store(3, 0), 0);
        due("start", Check.script(x, "start 3;"), 1);
        due("start", x.store(3, 0), 1);
        due("cut", Check.script(x, "cut 3 1;"), 1);
        due("cut", x.linked(1, 3), 0);
        due("cut: nothing changes is none refused", Check.script(x, "cut 1 3;"), 1);
        due("join", Check.script(x, "join 1 3;"), 1);
        due("join", x.linked(1, 3), 1);
        due("twice", Check.script(x, "beat 0; twice 1;"), 2);
        due("twice", x.count(0), 3);
        due("come", Check.script(x, "come 1;"), 1);
        due("come", x.message(2, 2), 3);
    }

    private static void blanks() {
        AgreedLog x = new AgreedLog();
        due("without", Check.script(x, "timeout0;times2{cut0 1;join0 1;}settle99;set0 1 2;set0 1-2;"), 8);
        due("- right behind a number", x.entry(0, 3, 3), -2);
        due("with", Check.script(x, "   set   0   1   -3   ;   times   2   {   beat   0   ;   }   "), 3);
        due("only blanks", Check.script(x, "    "), 0);
        due("no FAULT", x.fault(0), 0);
        due("within a word", Check.script(x, "bea t 0;"), -31);
        due("within a word", x.fault(1), 0);
        due("another sign than a blank", Check.script(x, "beat\t0;"), -31);
        due("at it", x.fault(1), 4);
        due("leading zeros", Check.script(x, "beat 000; set 000 003 007;"), 2);
        due("four digits, zeros too", Check.script(x, "beat 0000;"), -32);
        due("at the first", x.fault(1), 5);
        due("a capital", Check.script(x, "Beat 0;"), -31);
        due("a capital within", Check.script(x, "beaT 0;"), -31);
        due("the word isn't one", x.fault(1), 0);
        due("a z within", Check.script(x, "beatz 0;"), -31);
        due("the word isn't one", x.fault(1), 0);
        due("a capital behind", Check.script(x, "beatT 0;"), -31);
        due("the word is one", x.fault(1), 4);
    }

    private static void loops() {
        AgreedLog x = new AgreedLog();
        x.begin(1);
        x.timeout(0);
        due("times", Check.script(x, "times 3 { add 0 0 1; times 2 { add 0 1 1; times 2 { add 0 2 1; } } add 0 3 1; }"), 24);
        due("0", x.cell(0, 0), 3);
        due("1", x.cell(0, 1), 6);
        due("2", x.cell(0, 2), 12);
        due("3", x.cell(0, 3), 3);
        due("their order", x.entry(0, 2, 2), 0);
        due("their order", x.entry(0, 3, 2), 1);
        due("their order", x.entry(0, 4, 2), 2);
        due("their order", x.entry(0, 5, 2), 2);
        due("their order", x.entry(0, 6, 2), 1);
        due("their order", x.entry(0, 9, 2), 3);
        due("their order", x.entry(0, 10, 2), 0);
        due("0 ACTS", Check.script(x, "times 50 { times 50 { times 50 { } } } beat 0;"), 1);
        due("0 ACTS", Check.script(x, "times 50{}times 1{ }"), 0);
        due("one behind the other", Check.script(x, "times 2{beat 0;}times 2{}times 3{times 1{}beat 0;}"), 5);
        due("1 to 50", Check.script(x, "times 50{beat 0;}"), 50);
        due("1 to 50", Check.script(x, "times 1{beat 0;}times 01{beat 0;}times 001{beat 0;}"), 3);
        due("0", Check.script(x, "times 0{beat 0;}"), -32);
        due("at its first digit", x.fault(1), 6);
        due("51", Check.script(x, "beat 0;times 51{beat 0;}"), -32);
        due("at its first digit", x.fault(1), 13);
        due("999", Check.script(x, "times 999"), -32);
        due("1000", Check.script(x, "times  0001{beat 0;}"), -32);
        due("at its first digit", x.fault(1), 7);
        due("refused within", Check.script(x, "times 5{ set 0 0 7; times 2 { stop 1; } }"), 2);
        due("by", x.halted(0), -5);
        due("the word", x.halted(1), 30);
    }

    private static void loopsOpen() {
        AgreedLog x = new AgreedLog();
        due("three open", Check.script(x, "times 1{times 1{times 1{stop 4;}}}"), 1);
        due("four", Check.script(x, "times 1{times 1{times 1{times 1{stop 4;}}}}"), -33);
        due("20", x.fault(0), 3);
        due("at the {", x.fault(1), 31);
        due("closed ones don't count", Check.script(x, "times 1{times 1{times 1{}times 1{}}times 1{times 1{start 4;}}}"), 1);
        due("a } too much", Check.script(x, "times 1{}}"), -31);
        due("at it", x.fault(1), 9);
        due("a } missing", Check.script(x, "times 1{times 1{}"), -31);
        due("the end", x.fault(1), 17);
        due("a ; behind", Check.script(x, "times 1{};"), -31);
        due("at it", x.fault(1), 9);
        due("no {", Check.script(x, "times 1 stop 4;"), -31);
        due("at what stands there", x.fault(1), 8);
        due("no number", Check.script(x, "times {}"), -31);
        due("at the {", x.fault(1), 6);
        due("a - ahead", Check.script(x, "times -1{}"), -31);
        due("at the -", x.fault(1), 6);
        due("a { alone", Check.script(x, "{stop 4;}"), -31);
        due("at it", x.fault(1), 0);
        due("a ; alone", Check.script(x, "stop 4;;"), -31);
        due("at it", x.fault(1), 7);
        due("a number alone", Check.script(x, " 7;"), -31);
        due("at it", x.fault(1), 1);
        due("a long number alone: the least", Check.script(x, "7777;"), -31);
        due("a } within an ACT", Check.script(x, "times 1{stop 4}"), -31);
        due("at it", x.fault(1), 14);
    }

    private static void fourHundred() {
        AgreedLog x = new AgreedLog();
        x.begin(1);
        x.timeout(0);
        due("400", Check.script(x, "times 8 { times 50 { beat 0; } } stop 0;"), 400);
        due("the 401st isn't done", x.store(0, 0), 1);
        due("none was refused", x.halted(0), 0);
        due("401", Check.script(x, "times 50 { times 9 { careful 1; } } stop 0;"), 400);
        due("399 and one more", Check.script(x, "times 50{times 7{beat 0;}}times 49{beat 0;}stop 0;"), 400);
        due("done", x.store(0, 0), 0);
        due("much more", Check.script(x, "times 50{times 50{times 50{careful 0;}}}"), 400);
    }

    private static void faults() {
        AgreedLog x = new AgreedLog();
        due("a - and no digit", Check.script(x, "set 0 0 -;"), -31);
        due("behind the -", x.fault(1), 9);
        due("a - and a blank", Check.script(x, "set 0 0 - 5;"), -31);
        due("behind the -", x.fault(1), 9);
        due("a - at the end", Check.script(x, "set 0 0 -"), -31);
        due("the end", x.fault(1), 9);
        due("two -", Check.script(x, "set 0 0 --5;"), -31);
        due("behind the -", x.fault(1), 9);
        due("a - ahead of C", Check.script(x, "set 0 -0 5;"), -31);
        due("at the -", x.fault(1), 6);
        due("a - ahead of S", Check.script(x, "stop -1;"), -31);
        due("at the -", x.fault(1), 5);
        due("four digits", Check.script(x, "set 0 0 1000;"), -32);
        due("at the first", x.fault(1), 8);
        due("four digits behind a -", Check.script(x, "set 0 0 -1000;"), -32);
        due("at the first digit", x.fault(1), 9);
        due("20", x.fault(0), 2);
        due("the first along the text", Check.script(x, "stop 1234 times 0 }"), -32);
        due("the first along the text", x.fault(1), 5);
        due("the end within a word", Check.script(x, "stop 1; tim"), -31);
        due("at the word", x.fault(1), 8);
        due("the end behind a word", Check.script(x, "stop 1; times"), -31);
        due("the end", x.fault(1), 13);
        due("the end behind blanks", Check.script(x, "stop   "), -31);
        due("the end", x.fault(1), 7);
        due("nothing was done", x.count(3), 31);
        due("nothing to undo", x.count(7), 0);
        due("V 999", Check.script(x, "set 999 999 -999;"), 0);
        due("refused as it is done", x.halted(0), -2);
    }

    private static void halts() {
        AgreedLog x = new AgreedLog();
        due("two", Check.script(x, "stop 1;  stop 2;  stop 1; stop 3;"), 2);
        due("21 the code", x.halted(0), -5);
        due("21 the place", x.halted(1), 18);
        due("the rest isn't done", x.store(3, 0), 1);
        due("what was done stays", x.count(3), 25);
        Check.script(x, "stop 3");
        due("21 a FAULT leaves it", x.halted(1), 18);
        due("19 another", Check.script(x, "start 1; settle 0;"), 1);
        due("21 -3", x.halted(0), -3);
        due("21 place", x.halted(1), 9);
        due("19 -2", Check.script(x, "come 0;"), 0);
        due("21 -2", x.halted(0), -2);
        x.timeout(0);
        due("21 stays", x.halted(0), -2);
        x.undo(1);
        x.begin(31);
        due("21 stays", x.halted(0), -2);
        due("21 place", x.halted(1), 0);
        due("19 none refused", Check.script(x, "stop 4;"), 1);
        due("21 none", x.halted(0), 0);
        due("21 none", x.halted(1), NONE);
        due("19 careful 2", Check.script(x, "careful 2;"), 0);
        due("21 careful 2", x.halted(0), -3);
        due("-4", Check.script(x, "begin"), -31);
    }

    private static void undone() {
        AgreedLog x = new AgreedLog();
        Check.script(x, "stop 1; stop 2; stop 9;");
        due("as one", x.count(7), 1);
        Check.script(x, "stop 9; stop 3;");
        due("none was done", x.count(7), 1);
        Check.script(x, "");
        due("none was there", x.count(7), 1);
        Check.script(x, "stop 3");
        due("a FAULT", x.count(7), 1);
        due("UNDONE", x.undo(1), 0);
        due("as a whole", x.count(3), 31);
        due("20 stays", x.fault(0), 1);
        due("20 stays", x.fault(1), 6);
    }
}
