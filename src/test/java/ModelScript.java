import java.util.ArrayList;
import java.util.List;
import java.util.Map;

/** A SCRIPT's text read a second way: by descent, loops written out act by act. */
final class ModelScript {
    record Act(String word, int[] numbers, int place) { }

    private static final Map<String, Integer> NUMBERS = Map.ofEntries(
        Map.entry("timeout", 1), Map.entry("beat", 1), Map.entry("set", 3), Map.entry("add", 3),
        Map.entry("read", 2), Map.entry("hand", 2), Map.entry("change", 2), Map.entry("compact", 1),
        Map.entry("stop", 1), Map.entry("start", 1), Map.entry("cut", 2), Map.entry("join", 2),
        Map.entry("come", 1), Map.entry("lose", 1), Map.entry("twice", 1), Map.entry("settle", 1),
        Map.entry("careful", 1));

    private static final class Fault extends Exception {
        private static final long serialVersionUID = 1L;
        final int which;
        final int place;

        Fault(int which, int place) {
            this.which = which;
            this.place = place;
        }
    }

    private final String text;
    private int at = 0;
    int fault = 0;
    int faultPlace = -1;
    List<Act> acts = new ArrayList<>();

    ModelScript(String text) {
        this.text = text;
        try {
            acts = block(0);
        } catch (Fault f) {
            fault = f.which;
            faultPlace = f.place;
            acts = new ArrayList<>();
        }
    }

    private char here() {
        return at < text.length() ? text.charAt(at) : (char) 0xFFFF;
    }

    private void blanks() {
        while (here() == ' ') {
            at++;
        }
    }

    private List<Act> block(int open) throws Fault {
        List<Act> found = new ArrayList<>();
        while (true) {
            blanks();
            if (here() == 0xFFFF) {
                if (open > 0) {
                    throw new Fault(1, text.length());
                }
                return found;
            }
            if (here() == '}') {
                if (open == 0) {
                    throw new Fault(1, at);
                }
                at++;
                return found;
            }
            int place = at;
            String word = "";
            while (here() >= 'a' && here() <= 'z') {
                word += here();
                at++;
            }
            if (word.equals("times")) {
                found.addAll(times(open));
            } else if (NUMBERS.containsKey(word)) {
                found.add(act(word, place));
            } else {
                throw new Fault(1, place);
            }
            // No more than 400 are ever done, so what lies behind need not be written out.
            while (found.size() > 1000) {
                found.remove(found.size() - 1);
            }
        }
    }

    private List<Act> times(int open) throws Fault {
        blanks();
        int start = at;
        int n = number();
        if (n < 1 || n > 50) {
            throw new Fault(2, start);
        }
        blanks();
        if (here() != '{') {
            throw new Fault(1, at);
        }
        if (open == 3) {
            throw new Fault(3, at);
        }
        at++;
        List<Act> once = block(open + 1);
        List<Act> all = new ArrayList<>();
        for (int i = 0; i < n && all.size() < 1000; i++) {
            all.addAll(once);
        }
        return all;
    }

    private Act act(String word, int place) throws Fault {
        int[] v = new int[NUMBERS.get(word)];
        for (int i = 0; i < v.length; i++) {
            blanks();
            boolean minus = i == 2 && here() == '-';
            if (minus) {
                at++;
            }
            v[i] = minus ? -number() : number();
        }
        blanks();
        if (here() != ';') {
            throw new Fault(1, at);
        }
        at++;
        return new Act(word, v, place);
    }

    private int number() throws Fault {
        int start = at;
        while (here() >= '0' && here() <= '9') {
            at++;
        }
        if (at == start) {
            throw new Fault(1, at);
        }
        if (at - start > 3) {
            throw new Fault(2, start);
        }
        return Integer.parseInt(text.substring(start, at));
    }
}
