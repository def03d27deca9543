/** Counts answers that aren't as due, and ends a test with exit code 1 if there was one. */
final class Check {
    private static final int SHOWN = 40;
    private static int wrong = 0;
    private static int asked = 0;

    private Check() { }

    static void due(String what, long got, long want) {
        asked++;
        if (got != want) {
            wrong++;
            if (wrong <= SHOWN) {
                System.out.println(what + " answered " + got + ", due is " + want);
            }
        }
    }

    static boolean failing() {
        return wrong > 0;
    }

    static void end(String test) {
        System.out.println(test + ": " + asked + " answers, " + wrong + " not as due");
        if (wrong > 0) {
            System.exit(1);
        }
    }

    /** Puts a text on the tape, the last feed filled up with zeros. */
    static void feed(AgreedLog x, String text) {
        for (int i = 0; i < text.length(); i += 20) {
            x.feed(four(text, i), four(text, i + 4), four(text, i + 8), four(text, i + 12), four(text, i + 16));
        }
    }

    static int four(String text, int from) {
        int v = 0;
        for (int i = from; i < from + 4; i++) {
            v = v << 8 | (i < text.length() ? text.charAt(i) & 255 : 0);
        }
        return v;
    }

    static int script(AgreedLog x, String text) {
        feed(x, text);
        return x.script(text.length());
    }
}
