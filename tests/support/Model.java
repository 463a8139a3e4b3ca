import java.util.ArrayList;
import java.util.HashMap;
import java.util.List;
import java.util.Map;
import java.util.NoSuchElementException;
import java.util.TreeSet;

/** The document once more, written as naively as its words allow, to hold HissHorn against. */
public final class Model {
    private static final int NONE = -1;
    private static final int HIDDEN = -100000000;
    private static final String[] LETTERS = {"dahewl", "la", "ngbkt"};
    private static final int[] MOST_TEXTS = {12, 6, 6};

    private record Part(int law, int from, int to, int day) { }
    private record Change(int part, int from, int to, int day, boolean clean) { }
    private record Reading(int[] aim, int number, int day) { }
    private record Look(int part, int from, int to, int cost) { }
    private record Print(int house, int from, int to, int day) { }
    private record Letter(int from, int to, int day) { }

    private int now = 0;
    private String tape = "";
    private final List<List<String>> texts = List.of(new ArrayList<>(), new ArrayList<>(), new ArrayList<>());
    private final Map<List<Integer>, Integer> worths = new HashMap<>();
    private final List<Part> parts = new ArrayList<>();
    private final List<Integer> truly = new ArrayList<>();
    private final List<Change> changes = new ArrayList<>();
    private final List<Reading> readings = new ArrayList<>();
    private final List<Look> looks = new ArrayList<>();
    /** For each LOOK the number of the change that it was, or NONE. */
    private final List<Integer> doneAs = new ArrayList<>();
    private int houses = 0;
    private final List<Print> prints = new ArrayList<>();
    private final List<Print> papers = new ArrayList<>();
    private final List<Letter> letters = new ArrayList<>();

    private static boolean in(long n, long least, long greatest) {
        return n >= least && n <= greatest;
    }

    public int days(int n) {
        if (!in(n, 0, 60) || now + n > 120) return NONE;
        return now += n;
    }

    public int feed(int a, int b, int c, int d, int e) {
        StringBuilder longer = new StringBuilder(tape);
        for (int word : new int[] {a, b, c, d, e}) {
            for (byte one : java.nio.ByteBuffer.allocate(4).putInt(word).array()) {
                if (one != 0) longer.append((char) Byte.toUnsignedInt(one));
            }
        }
        if (longer.length() > 120) return NONE;
        tape = longer.toString();
        return tape.length();
    }

    public boolean end(int n) {
        if (!in(n, 0, tape.length())) return false;
        tape = tape.substring(0, n);
        return true;
    }

    public int fault(int sort) {
        return in(sort, 0, 2) ? new Grammar(tape, LETTERS[sort]).fault() : -2;
    }

    public int text(int sort) {
        if (!in(sort, 0, 2) || fault(sort) != NONE || texts.get(sort).size() == MOST_TEXTS[sort]) return NONE;
        texts.get(sort).add(tape.replace(" ", ""));
        tape = "";
        return texts.get(sort).size() - 1;
    }

    /** All ends that each rule can have from a place; the farthest byte that was looked at for a sign is the FAULT. */
    private static final class Grammar {
        private final String text;
        private final String letters;
        private int farthest = 0;

        Grammar(String text, String letters) {
            this.text = text;
            this.letters = letters;
        }

        int fault() {
            TreeSet<Integer> ends = listed(one(0), ";", this::clause);
            for (int end : ends) {
                if (skip(end) == text.length()) return NONE;
            }
            return farthest;
        }

        private interface Rule {
            TreeSet<Integer> from(int at);
        }

        private static TreeSet<Integer> one(int at) {
            TreeSet<Integer> ends = new TreeSet<>();
            ends.add(at);
            return ends;
        }

        private int skip(int at) {
            int to = at;
            while (to < text.length() && text.charAt(to) == ' ') to++;
            farthest = Math.max(farthest, to);
            return to;
        }

        private TreeSet<Integer> sign(TreeSet<Integer> starts, String signs) {
            TreeSet<Integer> ends = new TreeSet<>();
            for (int start : starts) {
                int at = skip(start);
                if (at < text.length() && signs.indexOf(text.charAt(at)) >= 0) ends.add(at + 1);
            }
            return ends;
        }

        private static TreeSet<Integer> each(TreeSet<Integer> starts, Rule rule) {
            TreeSet<Integer> ends = new TreeSet<>();
            for (int start : starts) ends.addAll(rule.from(start));
            return ends;
        }

        private TreeSet<Integer> listed(TreeSet<Integer> starts, String between, Rule rule) {
            TreeSet<Integer> ends = new TreeSet<>();
            TreeSet<Integer> fresh = each(starts, rule);
            while (ends.addAll(fresh)) fresh = each(sign(fresh, between), rule);
            return ends;
        }

        private TreeSet<Integer> clause(int at) {
            TreeSet<Integer> body = sign(sign(one(at), "y"), ":");
            TreeSet<Integer> ends = each(body, p -> sum(p, 0));
            ends.addAll(each(sign(each(body, p -> condition(p, 0)), "?"), p -> sum(p, 0)));
            return ends;
        }

        private TreeSet<Integer> condition(int at, int depth) {
            return listed(one(at), "|", p -> listed(one(p), "&", r -> unit(r, depth)));
        }

        private TreeSet<Integer> unit(int at, int depth) {
            TreeSet<Integer> ends = new TreeSet<>();
            if (depth < 6) {
                ends.addAll(each(sign(one(at), "!"), p -> unit(p, depth + 1)));
                ends.addAll(sign(each(sign(one(at), "("), p -> condition(p, depth + 1)), ")"));
            }
            ends.addAll(each(sign(sum(at, depth), "=<>"), p -> sum(p, depth)));
            return ends;
        }

        private TreeSet<Integer> sum(int at, int depth) {
            return listed(one(at), "+-", p -> listed(one(p), "*/", r -> atom(r, depth)));
        }

        private TreeSet<Integer> atom(int at, int depth) {
            TreeSet<Integer> ends = sign(one(at), letters);
            if (depth < 6) {
                ends.addAll(sign(each(sign(one(at), "["), p -> sum(p, depth + 1)), "]"));
            }
            int digit = skip(at);
            for (int i = 0; i < 4 && digit < text.length() && Character.isDigit(text.charAt(digit)); i++) {
                digit++;
                ends.add(digit);
            }
            return ends;
        }
    }

    /** WORTH of a text that has neither FAULT nor blanks, read anew at each question. */
    private static final class Worth {
        private final String text;
        private final String letters;
        private final long[] values;
        private int at;

        Worth(String text, String letters, long... values) {
            this.text = text;
            this.letters = letters;
            this.values = values;
        }

        int of() {
            for (String clause : text.split(";")) {
                int mark = clause.indexOf('?');
                Worth condition = new Worth(clause.substring(2, Math.max(2, mark)), letters, values);
                if (mark < 0 || condition.any()) {
                    return (int) new Worth(clause.substring(Math.max(2, mark + 1)), letters, values).sum();
                }
            }
            return 0;
        }

        private char sign() {
            return at < text.length() ? text.charAt(at) : 0;
        }

        private boolean any() {
            boolean holds = all();
            while (sign() == '|') {
                at++;
                holds |= all();
            }
            return holds;
        }

        private boolean all() {
            boolean holds = unit();
            while (sign() == '&') {
                at++;
                holds &= unit();
            }
            return holds;
        }

        private boolean unit() {
            if (sign() == '!') {
                at++;
                return !unit();
            }
            if (sign() == '(') {
                at++;
                boolean holds = any();
                at++;
                return holds;
            }
            long x = sum();
            char compare = sign();
            at++;
            long y = sum();
            return compare == '=' ? x == y : compare == '<' ? x < y : x > y;
        }

        private long sum() {
            long x = term();
            while (sign() == '+' || sign() == '-') {
                boolean plus = sign() == '+';
                at++;
                long y = term();
                x = within(plus ? x + y : x - y);
            }
            return x;
        }

        private long term() {
            long x = atom();
            while (sign() == '*' || sign() == '/') {
                boolean times = sign() == '*';
                at++;
                long y = atom();
                x = within(times ? x * y : y == 0 ? 0 : x / y);
            }
            return x;
        }

        private long atom() {
            char first = sign();
            at++;
            if (first == '[') {
                long x = sum();
                at++;
                return x;
            }
            if (letters.indexOf(first) >= 0) return values[letters.indexOf(first)];
            long x = first - '0';
            while (Character.isDigit(sign())) {
                x = x * 10 + sign() - '0';
                at++;
            }
            return x;
        }

        private static long within(long x) {
            return Math.max(-1000000, Math.min(1000000, x));
        }
    }

    private static boolean aim(int d, int a, int h, int w, int l) {
        return in(d, 0, 15) && in(a, 0, 9) && in(h, 0, 23) && in(w, 0, 9) && in(l, 1, 40);
    }

    private int worthOf(int law, int[] aim) {
        List<Integer> key = List.of(law, aim[0], aim[1], aim[2], aim[3], aim[4], aim[5]);
        if (!worths.containsKey(key)) {
            String text = texts.get(0).get(law);
            worths.put(key, new Worth(text, LETTERS[0], aim[0], aim[1], aim[2], aim[3], aim[4], aim[5]).of());
        }
        return worths.get(key);
    }

    public int worth(int law, int d, int a, int h, int e, int w, int l) {
        if (!in(law, 0, texts.get(0).size() - 1) || !aim(d, a, h, w, l) || !in(e, 0, 3)) {
            throw new NoSuchElementException();
        }
        return worthOf(law, new int[] {d, a, h, e, w, l});
    }

    private static boolean loud(int from, int to) {
        return in(from, 0, 400) && in(to, 0, 400) && from <= to;
    }

    public int part(int law, int from, int to, int truly) {
        if (!in(law, 0, texts.get(0).size() - 1) || !loud(from, to) || !in(truly, 0, 400) || parts.size() == 12) {
            return NONE;
        }
        parts.add(new Part(law, from, to, now));
        this.truly.add(truly);
        return parts.size() - 1;
    }

    private boolean day(int q) {
        return in(q, 0, now);
    }

    private boolean hasPart(int part) {
        return in(part, 0, parts.size() - 1);
    }

    private boolean hasReading(int reading) {
        return in(reading, 0, readings.size() - 1);
    }

    private static int[] cut(int[] span, int from, int to) {
        int[] both = {Math.max(span[0], from), Math.min(span[1], to)};
        return both[0] > both[1] ? new int[] {from, to} : both;
    }

    private int[] spanBy(int part, List<Change> applied) {
        int[] span = {parts.get(part).from(), parts.get(part).to()};
        for (Change change : applied) {
            if (change.part() == part) {
                span = change.clean() ? new int[] {change.from(), change.to()} : cut(span, change.from(), change.to());
            }
        }
        return span;
    }

    private int[] spanIn(int part, int q) {
        return spanBy(part, changes.stream().filter(c -> c.day() <= q).toList());
    }

    /** The spans of all PARTS told up to q; null for those that were not. */
    private int[][] spansIn(int q) {
        int[][] spans = new int[parts.size()][];
        for (int i = 0; i < parts.size(); i++) {
            spans[i] = parts.get(i).day() <= q ? spanIn(i, q) : null;
        }
        return spans;
    }

    public int span(int part, int q, int what) {
        if (!hasPart(part) || !day(q) || !in(what, 0, 1) || parts.get(part).day() > q) return NONE;
        return spanIn(part, q)[what];
    }

    public int sum(int day, int d, int a, int h, int w, int l) {
        if (!in(day, 0, 120) || !aim(d, a, h, w, l)) return HIDDEN;
        int all = 0;
        for (int i = 0; i < parts.size(); i++) {
            all += truly.get(i) * worthOf(parts.get(i).law(), new int[] {d, a, h, day / 30 % 4, w, l}) / 100;
        }
        return all;
    }

    public int heard(int d, int a, int h, int w, int l, int noise, long seed) {
        if (!aim(d, a, h, w, l) || !in(noise, 0, 50)) return HIDDEN;
        java.math.BigInteger x = java.math.BigInteger.valueOf(seed)
            .multiply(new java.math.BigInteger("6364136223846793005"))
            .add(new java.math.BigInteger("1442695040888963407"))
            .mod(java.math.BigInteger.ONE.shiftLeft(64)).shiftRight(33)
            .mod(java.math.BigInteger.valueOf(2 * noise + 1));
        return sum(now, d, a, h, w, l) + x.intValue() - noise;
    }

    public int read(int d, int a, int h, int w, int l, int number) {
        if (!aim(d, a, h, w, l) || !in(number, -100000, 100000) || readings.size() == 80) return NONE;
        readings.add(new Reading(new int[] {d, a, h, now / 30 % 4, w, l}, number, now));
        return readings.size() - 1;
    }

    /** What a PART shines at a READING at least and at most, being within a span. */
    private int[] shines(int part, int reading, int[] span) {
        int worth = worthOf(parts.get(part).law(), readings.get(reading).aim());
        int one = span[0] * worth / 100;
        int other = span[1] * worth / 100;
        return new int[] {Math.min(one, other), Math.max(one, other)};
    }

    private int[] leftBy(int reading, int[][] spans) {
        int number = readings.get(reading).number();
        int[] left = {number, number};
        for (int i = 0; i < spans.length; i++) {
            if (spans[i] != null) {
                int[] shine = shines(i, reading, spans[i]);
                left[0] -= shine[1];
                left[1] -= shine[0];
            }
        }
        return left;
    }

    private int widthBy(int reading, int[][] spans) {
        int[] left = leftBy(reading, spans);
        return left[1] - left[0];
    }

    private List<Integer> readingsIn(int q) {
        List<Integer> known = new ArrayList<>();
        for (int i = 0; i < readings.size(); i++) {
            if (readings.get(i).day() <= q) known.add(i);
        }
        return known;
    }

    public int left(int reading, int q, int what) {
        if (!hasReading(reading) || !day(q) || !in(what, 0, 1) || readings.get(reading).day() > q) return HIDDEN;
        return leftBy(reading, spansIn(q))[what];
    }

    public int most(int reading, int q) {
        if (!hasReading(reading) || !day(q)) return NONE;
        int best = NONE;
        int width = -1;
        int[][] spans = spansIn(q);
        for (int i = 0; i < spans.length; i++) {
            if (spans[i] != null) {
                int[] shine = shines(i, reading, spans[i]);
                if (shine[1] - shine[0] > width) {
                    width = shine[1] - shine[0];
                    best = i;
                }
            }
        }
        return best;
    }

    /** Null: none. */
    private int[] alikeIn(int q) {
        int[] both = null;
        int[][] spans = spansIn(q);
        for (int reading : readingsIn(q)) {
            int[] left = leftBy(reading, spans);
            both = both == null ? left : new int[] {Math.max(both[0], left[0]), Math.min(both[1], left[1])};
        }
        return both == null || both[0] > both[1] ? null : both;
    }

    public int alike(int q, int what) {
        if (!day(q) || !in(what, 0, 1) || alikeIn(q) == null) return HIDDEN;
        return alikeIn(q)[what];
    }

    /** The mean of MIDDLES of the READINGS with one value of a letter; null: there are none. */
    private Long mean(int q, int letter, int value) {
        long all = 0;
        int many = 0;
        int[][] spans = spansIn(q);
        for (int reading : readingsIn(q)) {
            if (readings.get(reading).aim()[letter] == value) {
                int[] left = leftBy(reading, spans);
                all += (left[0] + left[1]) / 2;
                many++;
            }
        }
        return many == 0 ? null : all / many;
    }

    public int goes(int q, int what) {
        if (!day(q) || !in(what, 0, 5) || readingsIn(q).isEmpty()) return HIDDEN;
        TreeSet<Long> means = new TreeSet<>();
        for (int value = 0; value <= 40; value++) {
            Long mean = mean(q, what, value);
            if (mean != null) means.add(mean);
        }
        return (int) (means.last() - means.first());
    }

    private boolean nothingLeft(int q, int[][] spans) {
        for (int reading : readingsIn(q)) {
            int[] left = leftBy(reading, spans);
            if (left[0] > 0 || left[1] < 0) return false;
        }
        return true;
    }

    public int could(int part, int q, int what) {
        if (!hasPart(part) || !day(q) || !in(what, 0, 1) || parts.get(part).day() > q) return NONE;
        int[][] spans = spansIn(q);
        TreeSet<Integer> could = new TreeSet<>();
        for (int v = 0; v <= 400; v++) {
            spans[part] = new int[] {v, v};
            if (nothingLeft(q, spans)) could.add(v);
        }
        return could.isEmpty() ? NONE : what == 0 ? could.first() : could.last();
    }

    private static List<Integer> listOf(int bits) {
        List<Integer> list = new ArrayList<>();
        for (int i = 0; i < 31; i++) {
            if ((bits >> i & 1) != 0) list.add(i);
        }
        return list;
    }

    /** Whether the first of two sets has the lower number where two first differ. */
    private static boolean ahead(int bits, int others) {
        List<Integer> one = listOf(bits);
        List<Integer> other = listOf(others);
        for (int i = 0; i < Math.min(one.size(), other.size()); i++) {
            if (!one.get(i).equals(other.get(i))) return one.get(i) < other.get(i);
        }
        return false;
    }

    public int sets(int q) {
        if (!day(q)) return NONE;
        int best = NONE;
        for (int bits = 0; bits < 1 << parts.size(); bits++) {
            int[][] spans = spansIn(q);
            boolean told = true;
            for (int part : listOf(bits)) {
                told &= spans[part] != null;
                spans[part] = new int[] {0, 400};
            }
            int more = best == NONE ? -1 : Integer.bitCount(bits) - Integer.bitCount(best);
            if (told && (more < 0 || more == 0 && ahead(bits, best)) && nothingLeft(q, spans)) best = bits;
        }
        return best;
    }

    public int look(int part, int from, int to, int cost) {
        if (!hasPart(part) || !loud(from, to) || !in(cost, 1, 50) || looks.size() == 10) return NONE;
        looks.add(new Look(part, from, to, cost));
        doneAs.add(NONE);
        return looks.size() - 1;
    }

    private boolean hasLook(int look) {
        return in(look, 0, looks.size() - 1);
    }

    public boolean done(int look) {
        if (!hasLook(look) || doneAs.get(look) != NONE) return false;
        doneAs.set(look, changes.size());
        Look one = looks.get(look);
        changes.add(new Change(one.part(), one.from(), one.to(), now, false));
        return true;
    }

    private int cleanings() {
        return (int) changes.stream().filter(Change::clean).count();
    }

    public boolean clean(int part, int from, int to, int truly) {
        if (!hasPart(part) || !loud(from, to) || !in(truly, 0, 400) || cleanings() == 20) return false;
        changes.add(new Change(part, from, to, now, true));
        this.truly.set(part, truly);
        return true;
    }

    private int[] spanAhead(int look, int more) {
        return spanBy(looks.get(look).part(), changes.subList(0, doneAs.get(look) + more));
    }

    public int narrows(int look, int reading) {
        if (!hasLook(look) || !hasReading(reading) || doneAs.get(look) == NONE) return HIDDEN;
        int[][] ahead = spansIn(now);
        int[][] behind = spansIn(now);
        ahead[looks.get(look).part()] = spanAhead(look, 0);
        behind[looks.get(look).part()] = spanAhead(look, 1);
        return widthBy(reading, ahead) - widthBy(reading, behind);
    }

    public int nothing() {
        int bits = 0;
        for (int i = 0; i < looks.size(); i++) {
            if (doneAs.get(i) != NONE && java.util.Arrays.equals(spanAhead(i, 0), spanAhead(i, 1))) bits |= 1 << i;
        }
        return bits;
    }

    public int plan(int reading, int coin, int what) {
        if (!hasReading(reading) || !in(coin, 0, 500) || !in(what, 0, 1)) return NONE;
        int best = 0;
        for (int bits = 0; bits < 1 << looks.size(); bits++) {
            if (judge(bits, reading) == -2 || cost(bits) > coin) continue;
            int wider = judge(bits, reading) - judge(best, reading);
            int dearer = cost(bits) - cost(best);
            if (wider < 0 || wider == 0 && (dearer < 0 || dearer == 0 && ahead(bits, best))) best = bits;
        }
        return what == 0 ? best : judge(best, reading);
    }

    private int cost(int bits) {
        return listOf(bits).stream().mapToInt(i -> looks.get(i).cost()).sum();
    }

    public int judge(int bits, int reading) {
        if (!hasReading(reading) || !in(bits, 0, (1 << looks.size()) - 1)) return -2;
        int[][] spans = spansIn(now);
        for (int i : listOf(bits)) {
            if (doneAs.get(i) != NONE) return -2;
            Look look = looks.get(i);
            spans[look.part()] = cut(spans[look.part()], look.from(), look.to());
        }
        return widthBy(reading, spans);
    }

    public int leans(int reading, int part) {
        if (!hasReading(reading) || !hasPart(part)) return HIDDEN;
        return worthOf(parts.get(part).law(), readings.get(reading).aim());
    }

    private int guessed(int guess, int l, int a) {
        return new Worth(texts.get(1).get(guess), LETTERS[1], l, a).of();
    }

    private TreeSet<Integer> fitsOf(int guess, int q) {
        TreeSet<Integer> fits = new TreeSet<>();
        int[][] spans = spansIn(q);
        for (int a = 0; a <= 60; a++) {
            boolean fit = true;
            for (int reading : readingsIn(q)) {
                int[] left = leftBy(reading, spans);
                fit = fit && in(guessed(guess, readings.get(reading).aim()[5], a), left[0], left[1]);
            }
            if (fit) fits.add(a);
        }
        return fits;
    }

    private boolean hasGuess(int guess) {
        return in(guess, 0, texts.get(1).size() - 1);
    }

    public int fits(int guess, int q, int what) {
        if (!hasGuess(guess) || !day(q) || !in(what, 0, 2)) return NONE;
        TreeSet<Integer> fits = fitsOf(guess, q);
        if (what == 2) return fits.size();
        return fits.isEmpty() ? NONE : what == 0 ? fits.first() : fits.last();
    }

    public int next(int one, int other, int q, int what) {
        if (!hasGuess(one) || !hasGuess(other) || !day(q) || !in(what, 0, 1)) return NONE;
        if (fits(one, q, 2) == 0 || fits(other, q, 2) == 0) return NONE;
        int a = fits(one, q, 0);
        int b = fits(other, q, 0);
        int[] best = {0, -1};
        for (int l = 1; l <= 40; l++) {
            int apart = Math.abs(guessed(one, l, a) - guessed(other, l, b));
            if (apart > best[1]) best = new int[] {l, apart};
        }
        return best[what];
    }

    public int house() {
        return houses == 8 ? NONE : houses++;
    }

    private boolean hasHouse(int house) {
        return in(house, 0, houses - 1);
    }

    public int print(int house, boolean paper, int from, int to) {
        List<Print> list = paper ? papers : prints;
        boolean sound = hasHouse(house) && in(from, -400, 400) && in(to, -400, 400) && from <= to;
        if (!sound || list.size() == (paper ? 20 : 40)) return NONE;
        list.add(new Print(house, from, to, now));
        return list.size() - 1;
    }

    public int had(int q, int what) {
        if (!day(q) || !in(what, 0, 1)) return NONE;
        int some = 0;
        for (Print print : prints) {
            boolean has = print.from() > 0;
            boolean could = print.to() > 0 && !has;
            if (print.day() <= q && (what == 0 ? has : could)) some++;
        }
        return some;
    }

    public boolean letter(int from, int to) {
        if (!hasHouse(from) || !hasHouse(to) || from == to || letters.size() == 60) return false;
        letters.add(new Letter(from, to, now));
        return true;
    }

    /** What each HOUSE knows at the end of each DAY (PRINTS, then FORETOLD ones), if these LETTERS were sent. */
    private long[][] knownBy(List<Letter> sent) {
        long[][] known = new long[now + 1][8];
        for (int day = 0; day <= now; day++) {
            if (day > 0) known[day] = known[day - 1].clone();
            for (int i = 0; i < prints.size(); i++) {
                if (prints.get(i).day() == day) known[day][prints.get(i).house()] |= 1L << i;
            }
            for (int i = 0; i < papers.size(); i++) {
                if (papers.get(i).day() == day) known[day][papers.get(i).house()] |= 1L << 40 + i;
            }
            for (Letter letter : sent) {
                if (letter.day() == day && day > 0) known[day][letter.to()] |= known[day - 1][letter.from()];
            }
        }
        return known;
    }

    public int knows(int house, boolean paper, int number, int day) {
        if (!hasHouse(house) || !in(number, 0, (paper ? papers : prints).size() - 1) || !day(day)) return NONE;
        return (int) (knownBy(letters)[day][house] >> (paper ? 40 + number : number) & 1);
    }

    private boolean common(Print print, Print paper) {
        for (int i = -400; i <= 400; i++) {
            if (in(i, print.from(), print.to()) && in(i, paper.from(), paper.to())) return true;
        }
        return false;
    }

    private int metBy(List<Letter> sent, long[] meets) {
        long[][] known = knownBy(sent);
        for (int day = 0; day <= now; day++) {
            for (int house = 0; house < houses; house++) {
                for (int i = 0; i < prints.size(); i++) {
                    if ((known[day][house] >> i & 1) != 0 && (known[day][house] & meets[i]) != 0) return day;
                }
            }
        }
        return NONE;
    }

    private long[] meets() {
        long[] meets = new long[prints.size()];
        for (int i = 0; i < prints.size(); i++) {
            for (int j = 0; j < papers.size(); j++) {
                if (prints.get(i).from() > 0 && common(prints.get(i), papers.get(j))) meets[i] |= 1L << 40 + j;
            }
        }
        return meets;
    }

    public int met() {
        return metBy(letters, meets());
    }

    public int sooner(int what) {
        if (!in(what, 0, 3)) return NONE;
        long[] meets = meets();
        int[] best = {NONE, NONE, NONE, metBy(letters, meets)};
        for (int day = 0; day <= now; day++) {
            for (int from = 0; from < houses; from++) {
                for (int to = 0; to < houses; to++) {
                    if (from == to) continue;
                    List<Letter> sent = new ArrayList<>(letters);
                    sent.add(new Letter(from, to, day));
                    int met = metBy(sent, meets);
                    if (met != NONE && (best[3] == NONE || met < best[3])) best = new int[] {from, to, day, met};
                }
            }
        }
        return best[0] == NONE ? NONE : best[what];
    }

    public int even(int q, int what) {
        if (!day(q) || !in(what, 0, 1)) return HIDDEN;
        long best = HIDDEN;
        for (int one = 0; one < 16; one++) {
            for (int other = one + 1; other < 16; other++) {
                Long mean = mean(q, 0, one);
                Long apart = mean(q, 0, other);
                if (mean != null && apart != null && (what == 0 || other - one == 8)) {
                    best = Math.max(best, Math.abs(mean - apart));
                }
            }
        }
        return (int) best;
    }

    public int say(int rule) {
        if (!in(rule, 0, texts.get(2).size() - 1)) return NONE;
        for (int q = 0; q <= now; q++) {
            int[] alike = alikeIn(q);
            int day = q;
            long done = doneAs.stream().filter(i -> i != NONE && changes.get(i).day() <= day).count();
            long width = alike == null ? 0 : alike[1] - alike[0];
            long lower = alike == null ? 0 : alike[0];
            if (new Worth(texts.get(2).get(rule), LETTERS[2], readingsIn(q).size(), width, lower, done, q).of() != 0) {
                return q;
            }
        }
        return NONE;
    }

    public int count(int what) {
        int[] counts = {now, texts.get(0).size(), texts.get(1).size(), texts.get(2).size(), parts.size(),
            readings.size(), looks.size(), (int) doneAs.stream().filter(i -> i != NONE).count(), cleanings(), houses,
            prints.size(), papers.size(), letters.size(), tape.length()};
        return in(what, 0, 13) ? counts[what] : NONE;
    }
}
