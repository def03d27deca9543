import java.util.Random;

/** Texts that mostly are SCRIPTS, with now and then a sign that spoils them. */
final class RandomScript {
    private static final String[] WORDS = {"timeout", "beat", "set", "add", "read", "hand", "change", "compact",
        "stop", "start", "cut", "join", "come", "lose", "twice", "settle", "careful"};
    private static final int[] NUMBERS = {1, 1, 3, 3, 2, 2, 2, 1, 1, 1, 2, 2, 1, 1, 1, 1, 1};
    private static final String SIGNS = " ;{}-0123456789abcdefghijklmnopqrstuvwxyzAZ_\u00e9";

    private final Random random;
    private final Model model;
    private final StringBuilder text = new StringBuilder();

    RandomScript(Random random, Model model) {
        this.random = random;
        this.model = model;
    }

    String text() {
        block(0, 1 + random.nextInt(6));
        if (text.length() > 280) {
            text.setLength(280);
        }
        if (random.nextInt(4) == 0) {
            spoil();
        }
        return text.toString();
    }

    private void spoil() {
        int at = random.nextInt(text.length() + 1);
        char sign = SIGNS.charAt(random.nextInt(SIGNS.length()));
        switch (random.nextInt(4)) {
            case 0 -> text.insert(at, sign);
            case 1 -> {
                if (at < text.length()) {
                    text.deleteCharAt(at);
                }
            }
            case 2 -> {
                if (at < text.length()) {
                    text.setCharAt(at, sign);
                }
            }
            default -> text.setLength(at);
        }
    }

    private void blanks() {
        while (random.nextInt(5) == 0) {
            text.append(' ');
        }
    }

    private void block(int open, int items) {
        for (int i = 0; i < items; i++) {
            blanks();
            if (random.nextInt(5) == 0 && (open < 3 || random.nextInt(5) == 0)) {
                text.append("times");
                number(random.nextInt(20) == 0 ? random.nextInt(70) : 1 + random.nextInt(6));
                blanks();
                text.append('{');
                block(open + 1, random.nextInt(4));
                blanks();
                text.append('}');
            } else {
                act();
            }
        }
        blanks();
    }

    private void number(int n) {
        text.append(' ');
        blanks();
        if (n >= 0 && n < 100 && random.nextInt(10) == 0) {
            text.append('0');
        }
        text.append(n);
        blanks();
    }

    private int store() {
        return random.nextInt(40) == 0 ? random.nextInt(9) : random.nextInt(5);
    }

    private void act() {
        int word = random.nextInt(WORDS.length);
        int leader = model.state.leader();
        text.append(WORDS[word]);
        boolean byLeader = word >= 1 && word <= 6 && leader >= 0 && random.nextInt(8) != 0;
        int first = byLeader ? leader : store();
        if (word >= 12 && word <= 14) {
            first = random.nextInt(6);
        } else if (word == 15) {
            first = 1 + random.nextInt(30);
        } else if (word == 16) {
            first = random.nextInt(2);
        }
        number(first);
        for (int i = 1; i < NUMBERS[word]; i++) {
            if (word == 6) {
                number(1 + random.nextInt(31));
            } else {
                number(i == 2 ? random.nextInt(1999) - 999 : store());
            }
        }
        text.append(';');
    }
}
