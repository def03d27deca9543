import java.util.Random;
import java.util.function.ToIntFunction;

/** Sentences of the document's 'Terms' that hold for every set, every pair of sets or every text: all of them are tried. */
public final class SentencesTest {
    private SentencesTest() { }

    private static void due(String what, long got, long want) {
        Bounds.due(what, got, want);
    }

    public static void main(String[] args) {
        Bounds.run(SentencesTest.class, 1, 0);
    }

    // ---- an object is used for at most 512 calls

    static void p01_upTo512Calls() {
        for (int seed = 1; seed <= 20; seed++) {
            Both both = new Both("512 calls, seed " + seed);
            Random random = new Random(seed);
            int leads = random.nextInt(5);
            both.call("timeout", leads);
            both.call("settle", 200);
            for (int calls = 3; calls <= 512; calls++) {
                someCall(both, random, leads);
            }
        }
    }

    private static void someCall(Both both, Random random, int leads) {
        switch (random.nextInt(10)) {
            case 0 -> both.call("read", leads, random.nextInt(4));
            case 1 -> both.call("propose", leads, 1 + random.nextInt(2), random.nextInt(4), random.nextInt(999));
            case 2 -> both.call("compact", random.nextInt(5));
            case 3 -> both.call("undo", 1 + random.nextInt(3));
            case 4 -> both.call("careful", random.nextInt(2));
            case 5 -> both.ask("then", random.nextInt(5), random.nextInt(17));
            case 6 -> both.ask("count", random.nextInt(11));
            case 7 -> both.call("beat", leads);
            default -> both.call("settle", 1 + random.nextInt(9));
        }
    }

    // ---- a MAJORITY: more than half of the set; by JOINT more than half of each

    private static boolean moreThanHalf(int set, int who) {
        int in = 0;
        int out = 0;
        for (int s = 0; s < 5; s++) {
            if ((set >> s & 1) == 1) {
                in += who >> s & 1;
                out += 1 - (who >> s & 1);
            }
        }
        return in > out;
    }

    private interface OfPair {
        void hold(AgreedLog x, int leads, int one, int two);
    }

    private interface Among {
        int told(AgreedLog x, int who);
    }

    /** The least of a set leads it; JOINT with each other set stands in its LOG alone, at place 2, and its TAKEs wait. */
    private static void everyPair(OfPair test) {
        for (int one = 1; one <= 31; one++) {
            int leads = Integer.numberOfTrailingZeros(one);
            for (int two = 1; two <= 31; two++) {
                if (two != one) {
                    AgreedLog x = new AgreedLog();
                    x.begin(one);
                    x.timeout(leads);
                    x.settle(200);
                    due("JOINT", x.change(leads, two), 2);
                    test.hold(x, leads, one, two);
                }
            }
        }
    }

    /** For all STORES that may be with it: what is told is due just if they are a MAJORITY of both sets. */
    private static void everyRest(AgreedLog x, int leads, int one, int two, Among test) {
        for (int rest = 0; rest < 32; rest++) {
            int who = rest | 1 << leads;
            if ((rest & ~(one | two)) == 0 && (rest >> leads & 1) == 0) {
                x.restore(0);
                int want = moreThanHalf(one, who) && moreThanHalf(two, who) ? 1 : 0;
                due("of " + one + " and " + two + " these: " + who, test.told(x, who), want);
            }
        }
    }

    /** What it asked them and what they answer comes. */
    private static void hear(AgreedLog x, int s, int who, int asks, int answers) {
        for (int t = 0; t < 5; t++) {
            if (t != s && (who >> t & 1) == 1) {
                int asked = x.first(s, t, asks);
                due("it was asked", asked >= 0 ? 1 : 0, 1);
                x.come(asked);
                int answered = x.first(t, s, answers);
                due("it answered", answered >= 0 ? 1 : 0, 1);
                x.come(answered);
            }
        }
    }

    static void p04_votesOfEverySet() {
        for (int set = 1; set <= 31; set++) {
            for (int s = 0; s < 5; s++) {
                AgreedLog x = new AgreedLog();
                x.begin(set);
                int stands = s;
                if (x.timeout(s) == 1) {
                    x.image(0);
                    everyRest(x, s, set, set, (y, who) -> {
                        hear(y, stands, who, 0, 1);
                        return y.store(stands, 3) == 2 ? 1 : 0;
                    });
                }
            }
        }
    }

    static void p04_votesOfEveryPairOfSets() {
        everyPair((x, leads, one, two) -> {
            Bounds.loseAll(x);
            x.stop(leads);
            x.start(leads);
            due("TERM", x.timeout(leads), 2);
            x.image(0);
            everyRest(x, leads, one, two, (y, who) -> {
                hear(y, leads, who, 0, 1);
                return y.leaders(2) >> leads & 1;
            });
        });
    }

    static void p04_carefulVotesOfEveryPairOfSets() {
        everyPair((x, leads, one, two) -> {
            Bounds.loseAll(x);
            x.stop(leads);
            x.start(leads);
            x.careful(1);
            x.timeout(leads);
            x.image(0);
            everyRest(x, leads, one, two, (y, who) -> {
                hear(y, leads, who, 7, 8);
                return y.store(leads, 1) - 1;
            });
        });
    }

    static void p06_agreedByEverySet() {
        for (int set = 1; set <= 31; set++) {
            int leads = Integer.numberOfTrailingZeros(set);
            AgreedLog x = new AgreedLog();
            x.begin(set);
            x.timeout(leads);
            x.settle(200);
            x.propose(leads, 1, 0, 5);
            x.image(0);
            everyRest(x, leads, set, set, (y, who) -> {
                hear(y, leads, who, 2, 3);
                return y.store(leads, 8) - 1;
            });
        }
    }

    static void p09_jointIsAgreedByAMajorityOfEach_thenNewComes() {
        everyPair((x, leads, one, two) -> {
            x.image(0);
            everyRest(x, leads, one, two, (y, who) -> {
                hear(y, leads, who, 2, 3);
                boolean agreed = y.store(leads, 8) >= 2;
                due("FIRST AGREED", y.agreed(2, 1), agreed ? 3 : -1000);
                due("NEW", y.entry(leads, 3, 2), agreed ? two : -1000);
                due("MEMBERS", y.store(leads, 9), agreed ? two : one);
                due("the second set", y.store(leads, 10), agreed ? 0 : two);
                return agreed ? 1 : 0;
            });
        });
    }

    /** The READ must be told ahead of JOINT, as JOINT AGREED isn't JOINT any more. */
    static void p07_heardByEverySet() {
        for (int set = 1; set <= 31; set++) {
            int leads = Integer.numberOfTrailingZeros(set);
            AgreedLog x = new AgreedLog();
            x.begin(set);
            x.timeout(leads);
            x.settle(200);
            x.read(leads, 3);
            x.image(0);
            everyRest(x, leads, set, set, (y, who) -> {
                hear(y, leads, who, 2, 3);
                due("who was heard", y.store(leads, 16), y.store(leads, 12) == 1 ? who : 0);
                return y.store(leads, 12) - 1;
            });
        }
    }

    static void p31_upInEveryPairOfSets() {
        everyPair((x, leads, one, two) -> {
            x.image(0);
            everyRest(x, leads, one, two, (y, who) -> {
                for (int t = 0; t < 5; t++) {
                    if ((who >> t & 1) == 0) {
                        y.stop(t);
                    }
                }
                return y.electable(leads);
            });
        });
    }

    static void p31_linkedInEveryPairOfSets() {
        everyPair((x, leads, one, two) -> {
            x.image(0);
            everyRest(x, leads, one, two, (y, who) -> {
                for (int t = 0; t < 5; t++) {
                    if ((who >> t & 1) == 0) {
                        y.link(t, leads, 0);
                    }
                }
                return y.electable(leads);
            });
        });
    }

    /** They take it, and the answers are left waiting, so that JOINT isn't AGREED meanwhile. */
    static void p33_safeInEveryPairOfSets() {
        everyPair((x, leads, one, two) -> {
            x.image(0);
            everyRest(x, leads, one, two, (y, who) -> {
                for (int t = 0; t < 5; t++) {
                    if (t != leads && (who >> t & 1) == 1) {
                        y.come(y.first(leads, t, 2));
                    }
                }
                due("holders", y.holders(leads, 2), who);
                return y.safe(leads, 2);
            });
        });
    }

    static void p42_fewestOfEverySet() {
        for (int set = 1; set <= 31; set++) {
            AgreedLog x = new AgreedLog();
            x.begin(set);
            int members = Integer.bitCount(set);
            // So many stop that half of them are left, or one below it.
            due("of " + set, x.fragile(), members - members / 2);
        }
    }

    // ---- MEMBERS of every set

    static void p04_askedAreAllOtherMembersRising() {
        everySetOfMessages(0, x -> x.careful(0));
    }

    static void p04_carefulAskedAreAllOtherMembersRising() {
        everySetOfMessages(7, x -> x.careful(1));
    }

    private static void everySetOfMessages(int kind, ToIntFunction<AgreedLog> ahead) {
        for (int set = 1; set <= 31; set++) {
            for (int s = 0; s < 5; s++) {
                AgreedLog x = new AgreedLog();
                x.begin(set);
                ahead.applyAsInt(x);
                boolean member = (set >> s & 1) == 1;
                boolean stands = kind == 0 || set == 1 << s;
                due("TIMEOUT", x.timeout(s), !member ? -5 : stands ? 1 : 0);
                int i = 0;
                for (int t = 0; t < 5; t++) {
                    if (member && t != s && (set >> t & 1) == 1) {
                        due("to", x.message(i, 1), t);
                        due("KIND", x.message(i, 2), kind);
                        due("TERM", x.message(i, 3), 1);
                        i++;
                    }
                }
                due("no others", x.count(0), i);
            }
        }
    }

    // ---- a SCRIPT's text: FAULTS at every place of it

    private static final String[] TEXTS = {"timeout 0; settle 99;", "times 2 { set 0 1 -5; } careful 1;",
        "times 2{times 3{times 1{beat 0;}}}", " hand 1 2 ;cut 3 4;add 10 200 -300 ; ", "times 50 { } lose 1; come 2; "};

    private static void sameFault(AgreedLog x, String text) {
        sameFault(x, text, text.length());
    }

    /** The first n bytes are the SCRIPT; those behind stand on THE TAPE all the same. */
    private static void sameFault(AgreedLog x, String tape, int n) {
        String text = tape.substring(0, n);
        ModelScript due = new ModelScript(text);
        Check.feed(x, tape);
        int got = x.script(n);
        due("FAULT of \"" + text + "\"", x.fault(0), due.fault);
        due("its place in \"" + text + "\"", x.fault(1), due.faultPlace);
        due("the answer for \"" + text + "\"", Math.min(got, 0), due.fault == 0 ? 0 : -30 - due.fault);
    }

    static void p19_anyByteAtAnyPlace() {
        AgreedLog x = new AgreedLog();
        for (String text : TEXTS) {
            for (int i = 0; i < text.length(); i++) {
                for (char c = 0; c < 256; c++) {
                    sameFault(x, text.substring(0, i) + c + text.substring(i + 1));
                }
            }
        }
    }

    static void p19_anyByteBetween() {
        AgreedLog x = new AgreedLog();
        for (String text : TEXTS) {
            for (int i = 0; i <= text.length(); i++) {
                for (char c = ' '; c < 127; c++) {
                    sameFault(x, text.substring(0, i) + c + text.substring(i));
                }
            }
        }
    }

    static void p19_anyByteLeftOut_anyEnd() {
        AgreedLog x = new AgreedLog();
        for (String text : TEXTS) {
            for (int i = 0; i < text.length(); i++) {
                sameFault(x, text.substring(0, i) + text.substring(i + 1));
                sameFault(x, text.substring(0, i));
            }
        }
    }

    /** A word or a number that goes on behind the n-th byte ends there. */
    static void p19_theFirstNBytesAlone_ofAnyText() {
        AgreedLog x = new AgreedLog();
        for (String text : TEXTS) {
            for (int n = 0; n <= text.length(); n++) {
                sameFault(x, text, n);
                sameFault(x, text.substring(0, n) + "abc", n);
                sameFault(x, text.substring(0, n) + "0123", n);
            }
        }
    }

    static void p19_whatStandsBehindTheNthByteIsntRead() {
        AgreedLog x = new AgreedLog();
        Check.feed(x, "timeout 0;timeout 1;");
        due("one act", x.script(10), 1);
        due("of 0", x.store(0, 1), 1);
        due("none of 1", x.store(1, 1), 0);
        Check.feed(x, "timeout 1;beater 0; ");
        due("beat", x.script(14), -31);
        due("its number is due at the end", x.fault(1), 14);
        Check.feed(x, "timeout 12;");
        due("timeout 1", x.script(9), -31);
        due("its ; is due at the end", x.fault(1), 9);
    }

    /** No byte stands behind the 300th. */
    static void p19_300BytesThatEndInAWordOrANumber() {
        for (String end : new String[] {"beat", "settle 20", "times", "set 0 1 -", "times 50 {", "careful 1"}) {
            AgreedLog x = new AgreedLog();
            sameFault(x, " ".repeat(300 - end.length()) + end);
            due("at the end of \"" + end + "\"", x.fault(1), 300);
        }
    }
}
