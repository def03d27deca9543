/** Promises 43 to 46: undo, images, counts. */
public final class BackTest {
    private static final int LOW = Integer.MIN_VALUE;
    private static final int HIGH = Integer.MAX_VALUE;

    private static void due(String what, long got, long want) {
        Check.due(what, got, want);
    }

    public static void main(String[] args) {
        undo();
        undoEach();
        undoRefused();
        undoAll();
        image();
        imageAll();
        count();
        Check.end("BackTest");
    }

    private static void undo() {
        AgreedLog x = new AgreedLog();
        due("43 nothing", x.undo(1), -3);
        x.stop(0);
        x.stop(1);
        x.stop(2);
        due("43 three", x.count(7), 3);
        due("43 more than can be", x.undo(4), -3);
        due("43 the latest first", x.undo(1), 2);
        due("43 UP again", x.count(3), 31 - 3);
        due("43 two", x.undo(2), 0);
        due("43 all UP", x.count(3), 31);
        for (int i = 0; i < 12; i++) {
            x.careful(i % 2);
            x.stop(i % 5);
            x.start(i % 5);
        }
        due("43 eight at most", x.count(7), 8);
        for (int wrong : new int[] {0, -1, 9, LOW, HIGH}) {
            due("43 n", x.undo(wrong), -3);
        }
        due("43 eight", x.undo(8), 0);
        due("43 eldest are forgotten", x.undo(1), -3);
        x.stop(4);
        due("43 again", x.undo(1), 0);
        due("43 UP", x.count(3), 31);
    }

    /** Each call that told something counts as one, and comes back as a whole. */
    private static void undoEach() {
        String[] ahead = {"", "", "", "timeout 0; settle 99;", "timeout 0; settle 99;", "timeout 0; settle 99;",
            "timeout 0; settle 99;", "timeout 0; settle 99;", "timeout 0; settle 99;", "", "stop 0;", "",
            "timeout 0;", "timeout 0;", "timeout 0;", "timeout 0;"};
        for (int call = 0; call < 16; call++) {
            AgreedLog x = new AgreedLog();
            Check.script(x, ahead[call]);
            int were = x.count(7);
            long print = print(x);
            int code = tell(x, call);
            due("43 not refused: " + call, code >= 0 ? 1 : 0, 1);
            due("43 another: " + call, print == print(x) ? 1 : 0, 0);
            due("43 can be UNDONE: " + call, x.count(7), were + 1);
            due("43 UNDONE: " + call, x.undo(1), were);
            due("43 as it was: " + call, print(x), print);
        }
    }

    private static int tell(AgreedLog x, int call) {
        return switch (call) {
            case 0 -> x.begin(3);
            case 1 -> x.careful(1);
            case 2 -> x.timeout(0);
            case 3 -> x.beat(0);
            case 4 -> x.propose(0, 1, 0, 1);
            case 5 -> x.read(0, 0);
            case 6 -> x.hand(0, 1);
            case 7 -> x.change(0, 3);
            case 8 -> x.compact(0);
            case 9 -> x.stop(0);
            case 10 -> x.start(0);
            case 11 -> x.link(0, 1, 0);
            case 12 -> x.come(0);
            case 13 -> x.lose(0);
            case 14 -> x.twice(0);
            default -> x.settle(3);
        };
    }

    /** A number made of all that lies open. */
    private static long print(AgreedLog x) {
        long print = 7;
        for (int what : new int[] {0, 1, 2, 3, 4, 5, 6, 8, 9}) {
            print = print * 31 + x.count(what);
        }
        for (int s = 0; s < 5; s++) {
            for (int what = 0; what < 17; what++) {
                print = print * 31 + x.store(s, what);
            }
            for (int t = 0; t < 5; t++) {
                print = print * 31 + x.cell(s, t) + x.follows(s, t, 0) * 5 + x.follows(s, t, 1);
                print = print * 31 + x.linked(s, t);
            }
            for (int place = 1; place <= 12; place++) {
                for (int what = 0; what < 4; what++) {
                    print = print * 31 + x.entry(s, place, what);
                    print = print * 31 + x.agreed(place, what);
                }
            }
        }
        for (int i = 0; i < x.count(0); i++) {
            for (int what = 0; what < 10; what++) {
                print = print * 31 + x.message(i, what);
            }
        }
        for (int term = 1; term <= 5; term++) {
            print = print * 31 + x.leaders(term);
        }
        return print;
    }

    private static void undoRefused() {
        AgreedLog x = new AgreedLog();
        x.begin(0);
        x.careful(2);
        x.timeout(5);
        x.beat(0);
        x.propose(0, 1, 0, 1);
        x.read(0, 0);
        x.hand(0, 1);
        x.change(0, 1);
        x.compact(0);
        x.stop(5);
        x.start(0);
        x.link(0, 0, 0);
        x.come(0);
        x.lose(0);
        x.twice(0);
        x.settle(1);
        x.feed(0, 0, 0, 0, 0);
        x.script(20);
        x.image(0);
        x.store(0, 0);
        due("43 refused ones can't be", x.count(7), 0);
        x.stop(0);
        x.stop(0);
        due("43 refused ones don't stand between", x.undo(1), 0);
        due("43 UP", x.count(3), 31);
    }

    private static void undoAll() {
        AgreedLog x = new AgreedLog();
        Check.script(x, "timeout 0; settle 99; set 0 1 5; settle 99; compact 1;");
        long print = print(x);
        Check.script(x, "cut 0 1; set 0 1 6; settle 99; change 0 7; settle 99; timeout 2; settle 50; stop 0; careful 1;");
        due("43 another", print == print(x) ? 1 : 0, 0);
        x.undo(1);
        due("43 as it was", print(x), print);
        x.propose(0, 2, 1, 1);
        x.settle(200);
        due("43 it goes on from there", x.cell(0, 1), 6);
        x.undo(2);
        due("43 as it was", print(x), print);
    }

    private static void image() {
        AgreedLog x = new AgreedLog();
        for (int wrong : new int[] {-1, 2, LOW, HIGH}) {
            due("44 no such", x.image(wrong), -2);
            due("45 no such", x.restore(wrong), -2);
        }
        due("45 none was made", x.restore(0), -6);
        due("45 none was made", x.restore(1), -6);
        x.stop(0);
        due("44", x.image(1), 0);
        due("44 can't be UNDONE itself", x.count(7), 1);
        due("45 another one wasn't made", x.restore(0), -6);
        x.stop(1);
        due("45", x.restore(1), 0);
        due("45 as it was", x.count(3), 30);
        due("45 nothing can be UNDONE behind", x.count(7), 0);
        due("45 nothing can be UNDONE behind", x.undo(1), -3);
        x.stop(2);
        due("44", x.image(0), 0);
        x.stop(3);
        due("45 the elder one", x.restore(1), 0);
        due("45 as it was", x.count(3), 30);
        due("45 the other one", x.restore(0), 0);
        due("45 as it was", x.count(3), 26);
        x.begin(7);
        due("45 begin() leaves it", x.restore(0), 0);
        due("45 as it was", x.count(8), 31);
        x.start(0);
        due("44 over it", x.image(0), 0);
        x.undo(1);
        due("45 UNDO leaves it", x.restore(0), 0);
        due("45 as it was", x.count(3), 27);
    }

    private static void imageAll() {
        AgreedLog x = new AgreedLog();
        Check.script(x, "careful 1; timeout 0; settle 99; set 0 1 5; settle 99; compact 1; cut 3 4; beat 0; read 0 1;");
        long print = print(x);
        x.image(0);
        Check.script(x, "settle 99; set 0 1 6; settle 99; change 0 7; settle 99; timeout 2; settle 50; stop 0; careful 0;");
        x.begin(3);
        x.restore(0);
        due("45 as it was", print(x), print);
        x.settle(200);
        due("45 it goes on from there", x.store(0, 14), 5);
        x.restore(0);
        due("45 as often as one likes", print(x), print);
    }

    private static void count() {
        AgreedLog x = new AgreedLog();
        x.begin(15);
        x.careful(1);
        Check.script(x, "careful 0; timeout 0; settle 99; careful 1; cut 0 1; set 0 0 4; stop 4; come 0;");
        x.feed(0, 0, 0, 0, 0);
        int[] want = {2, 1, 13, 15, 1, 1, 1, 3, 15, 1, 20};
        for (int what = 0; what < want.length; what++) {
            due("46 what " + what, x.count(what), want[what]);
        }
        for (int wrong : new int[] {-1, 11, LOW, HIGH}) {
            due("46 others", x.count(wrong), -1);
        }
        x.settle(200);
        due("46 the greatest AGREED", x.count(6), 2);
        x.timeout(3);
        due("46 nobody stands", x.count(5), 1);
        x.careful(0);
        x.timeout(3);
        due("46 the greatest TERM", x.count(5), 2);
    }
}
