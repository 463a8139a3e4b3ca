import java.util.Random;

/** Draws texts and arguments, mostly sound ones, from a seed that each run tells. */
public final class Wheel {
    private static final String[] LETTERS = {"dahewl", "la", "ngbkt"};
    private static final String SIGNS = "y:;?|&!()=<>+-*/[]0123456789dahewlngbkt  x";
    private final Random random;

    public Wheel(long seed) {
        random = new Random(seed);
    }

    public int below(int n) {
        return random.nextInt(n);
    }

    public long seed() {
        return random.nextLong();
    }

    public boolean oneIn(int n) {
        return random.nextInt(n) == 0;
    }

    /** A number of a range, now and then an edge of it, one beside it, or any at all. */
    public int of(int least, int greatest) {
        int throwOf = random.nextInt(60);
        if (throwOf == 0) return least - 1;
        if (throwOf == 1) return greatest + 1;
        if (throwOf == 2) return oneIn(2) ? Integer.MIN_VALUE : Integer.MAX_VALUE;
        if (throwOf == 3) return random.nextInt();
        if (throwOf < 8) return least;
        if (throwOf < 12) return greatest;
        return greatest < least ? least : least + random.nextInt(greatest - least + 1);
    }

    /** A text without FAULT, unless it is too long. */
    public String text(int sort) {
        StringBuilder text = new StringBuilder();
        int clauses = 1 + random.nextInt(3);
        for (int i = 0; i < clauses; i++) {
            if (i > 0) put(text, ";");
            put(text, "y");
            put(text, ":");
            if (i < clauses - 1 || oneIn(2)) {
                condition(text, sort, 0);
                put(text, "?");
            }
            sum(text, sort, 0);
        }
        if (oneIn(4)) text.append(' ');
        return text.length() > 120 ? text.substring(0, 120) : text.toString();
    }

    /** A text with a byte that was put in, taken out or changed, or one that ends too early. */
    public String spoilt(int sort) {
        StringBuilder text = new StringBuilder(text(sort));
        int times = 1 + random.nextInt(2);
        for (int i = 0; i < times && text.length() > 0; i++) {
            int at = random.nextInt(text.length());
            char sign = oneIn(8) ? (char) (1 + random.nextInt(255)) : SIGNS.charAt(random.nextInt(SIGNS.length()));
            switch (random.nextInt(4)) {
                case 0 -> text.setCharAt(at, sign);
                case 1 -> text.deleteCharAt(at);
                case 2 -> text.insert(at, sign);
                default -> text.setLength(at);
            }
        }
        return text.length() > 120 ? text.substring(0, 120) : text.toString();
    }

    private void put(StringBuilder text, String sign) {
        while (oneIn(12)) text.append(' ');
        text.append(sign);
    }

    private void condition(StringBuilder text, int sort, int depth) {
        unit(text, sort, depth);
        while (oneIn(4)) {
            put(text, oneIn(2) ? "|" : "&");
            unit(text, sort, depth);
        }
    }

    private void unit(StringBuilder text, int sort, int depth) {
        if (depth < 7 && oneIn(4)) {
            put(text, "!");
            unit(text, sort, depth + 1);
        } else if (depth < 7 && oneIn(4)) {
            put(text, "(");
            condition(text, sort, depth + 1);
            put(text, ")");
        } else {
            sum(text, sort, depth);
            put(text, "=<>".substring(random.nextInt(3)).substring(0, 1));
            sum(text, sort, depth);
        }
    }

    private void sum(StringBuilder text, int sort, int depth) {
        atom(text, sort, depth);
        while (oneIn(3)) {
            put(text, "+-*/".substring(random.nextInt(4)).substring(0, 1));
            atom(text, sort, depth);
        }
    }

    private void atom(StringBuilder text, int sort, int depth) {
        if (depth < 7 && oneIn(6)) {
            put(text, "[");
            sum(text, sort, depth + 1);
            put(text, "]");
        } else if (oneIn(2)) {
            put(text, String.valueOf(LETTERS[sort].charAt(random.nextInt(LETTERS[sort].length()))));
        } else {
            int[] most = {3, 10, 100, 300, 10000};
            put(text, String.valueOf(random.nextInt(most[random.nextInt(5)])));
            if (oneIn(20)) text.append(random.nextInt(10));
        }
    }
}
