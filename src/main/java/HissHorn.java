import java.util.Arrays;
import java.util.NoSuchElementException;

/**
 * A horn that always hears a little too much. What each call answers stands in the document's promises; words in
 * capitals are the document's terms. All that is told is only ever added to, so what was known on a DAY is the first
 * so many rows of each kind.
 */
public final class HissHorn {
    public static final int NONE = -1;
    public static final int HIDDEN = -100000000;

    private static final int NO_SUCH = -2;
    private static final int LAST_DAY = 120;
    private static final int LONGEST_REST = 60;
    private static final int SEASON_DAYS = 30;
    private static final int SEASONS = 4;
    private static final int DIRECTIONS = 16;
    private static final int TIPS = 10;
    private static final int HOURS = 24;
    private static final int WETS = 10;
    private static final int WAVES = 40;
    private static final int AIM_LETTERS = 6;
    private static final int LOUDEST = 400;
    private static final int LOUDEST_NOISE = 50;
    private static final int GREATEST_NUMBER = 100000;
    private static final int GREATEST_COST = 50;
    private static final int GREATEST_COIN = 500;
    private static final int GREATEST_OPEN = 60;
    private static final int LAWS = 12;
    private static final int PARTS = 12;
    private static final int READINGS = 80;
    private static final int LOOKS = 10;
    private static final int CLEANINGS = 20;
    private static final int HOUSES = 8;
    private static final int PRINTS = 40;
    private static final int PAPERS = 20;
    private static final int LETTERS = 60;
    private static final long DRAW_TIMES = 6364136223846793005L;
    private static final long DRAW_AND = 1442695040888963407L;
    private static final int DRAW_SHIFT = 33;

    private final Tape tape;
    private final Parser parser;
    private final Shelf laws;
    private final Shelf guesses;
    private final Shelf rules;
    private final Parts parts;
    private final Readings readings;
    private final Findings findings;
    private final Blame blame;
    private final Looks looks;
    private final Houses houses;
    private final Meeting meeting;
    private int now;

    public HissHorn() {
        tape = new Tape();
        parser = new Parser(tape);
        laws = new Shelf("dahewl", LAWS);
        guesses = new Shelf("la", 6);
        rules = new Shelf("ngbkt", 6);
        parts = new Parts();
        readings = new Readings(laws, parts);
        findings = new Findings(readings, guesses);
        blame = new Blame(readings, parts);
        looks = new Looks(readings, parts);
        houses = new Houses();
        meeting = new Meeting(houses);
        now = 0;
    }

    public int days(int n) {
        if (!within(n, 0, LONGEST_REST) || now + n > LAST_DAY) {
            return NONE;
        }
        now += n;
        return now;
    }

    public int feed(int a, int b, int c, int d, int e) {
        int more = Tape.bytesOf(a) + Tape.bytesOf(b) + Tape.bytesOf(c) + Tape.bytesOf(d) + Tape.bytesOf(e);
        if (tape.length + more > Tape.LONGEST) {
            return NONE;
        }
        tape.append(a);
        tape.append(b);
        tape.append(c);
        tape.append(d);
        tape.append(e);
        return tape.length;
    }

    public boolean end(int n) {
        if (!within(n, 0, tape.length)) {
            return false;
        }
        tape.length = n;
        return true;
    }

    public int fault(int sort) {
        Shelf shelf = shelfOf(sort);
        return shelf == null ? NO_SUCH : parser.faultBy(shelf.letters);
    }

    public int text(int sort) {
        Shelf shelf = shelfOf(sort);
        if (shelf == null || shelf.isFull() || parser.faultBy(shelf.letters) != NONE) {
            return NONE;
        }
        tape.length = 0;
        return shelf.add(parser.compiled());
    }

    public int worth(int law, int d, int a, int h, int e, int w, int l) throws NoSuchElementException {
        if (!laws.has(law) || !isAim(d, a, h, w, l) || !within(e, 0, SEASONS - 1)) {
            throw new NoSuchElementException();
        }
        laws.setAim(d, a, h, e, w, l);
        return laws.ask(law);
    }

    public int part(int law, int from, int to, int truly) {
        if (!laws.has(law) || !isLoudness(from, to) || !within(truly, 0, LOUDEST) || parts.size >= PARTS) {
            return NONE;
        }
        return parts.add(law, from, to, truly, now);
    }

    public int span(int part, int q, int what) {
        if (!isDay(q) || !isEither(what) || !parts.has(part) || parts.day[part] > q) {
            return NONE;
        }
        parts.recall(q);
        return what == 0 ? parts.low[part] : parts.high[part];
    }

    public int sum(int day, int d, int a, int h, int w, int l) {
        if (!within(day, 0, LAST_DAY) || !isAim(d, a, h, w, l)) {
            return HIDDEN;
        }
        laws.setAim(d, a, h, seasonOf(day), w, l);
        return trueSum();
    }

    public int heard(int d, int a, int h, int w, int l, int noise, long seed) {
        if (!isAim(d, a, h, w, l) || !within(noise, 0, LOUDEST_NOISE)) {
            return HIDDEN;
        }
        laws.setAim(d, a, h, seasonOf(now), w, l);
        long drawn = (seed * DRAW_TIMES + DRAW_AND) >>> DRAW_SHIFT;
        return trueSum() + (int) (drawn % (2 * noise + 1)) - noise;
    }

    public int read(int d, int a, int h, int w, int l, int number) {
        if (!isAim(d, a, h, w, l) || !within(number, -GREATEST_NUMBER, GREATEST_NUMBER) || readings.size >= READINGS) {
            return NONE;
        }
        laws.setAim(d, a, h, seasonOf(now), w, l);
        return readings.add(number, now);
    }

    public int left(int reading, int q, int what) {
        if (!isDay(q) || !isEither(what) || !readings.has(reading) || readings.day[reading] > q) {
            return HIDDEN;
        }
        readings.recall(q);
        return what == 0 ? readings.lower[reading] : readings.upper[reading];
    }

    public int most(int reading, int q) {
        if (!isDay(q) || !readings.has(reading)) {
            return NONE;
        }
        parts.recall(q);
        return readings.widestPart(reading);
    }

    public int alike(int q, int what) {
        if (!isDay(q) || !isEither(what)) {
            return HIDDEN;
        }
        readings.recall(q);
        if (!findings.compare()) {
            return HIDDEN;
        }
        return what == 0 ? findings.alikeFrom : findings.alikeTo;
    }

    public int goes(int q, int what) {
        if (!isDay(q) || !within(what, 0, AIM_LETTERS - 1)) {
            return HIDDEN;
        }
        readings.recall(q);
        return findings.meansBy(what) == 0 ? HIDDEN : findings.distance();
    }

    public int could(int part, int q, int what) {
        if (!isDay(q) || !isEither(what) || !parts.has(part) || parts.day[part] > q) {
            return NONE;
        }
        readings.recall(q);
        if (!blame.narrowDown(part)) {
            return NONE;
        }
        return what == 0 ? blame.least : blame.greatest;
    }

    public int sets(int q) {
        if (!isDay(q)) {
            return NONE;
        }
        readings.recall(q);
        return blame.fewest();
    }

    public int look(int part, int from, int to, int cost) {
        boolean sound = parts.has(part) && isLoudness(from, to) && within(cost, 1, GREATEST_COST);
        return !sound || looks.size >= LOOKS ? NONE : looks.add(part, from, to, cost);
    }

    public boolean done(int look) {
        if (!looks.has(look) || looks.isDone(look)) {
            return false;
        }
        looks.carryOut(look, now);
        return true;
    }

    public boolean clean(int part, int from, int to, int truly) {
        boolean sound = parts.has(part) && isLoudness(from, to) && within(truly, 0, LOUDEST);
        if (!sound || parts.cleanings >= CLEANINGS) {
            return false;
        }
        parts.cleanings++;
        parts.truly[part] = truly;
        parts.change(part, from, to, now, true);
        return true;
    }

    public int narrows(int look, int reading) {
        if (!looks.has(look) || !looks.isDone(look) || !readings.has(reading)) {
            return HIDDEN;
        }
        return looks.gain(look, reading);
    }

    public int nothing() {
        return looks.idle();
    }

    public int plan(int reading, int coin, int what) {
        if (!readings.has(reading) || !within(coin, 0, GREATEST_COIN) || !isEither(what)) {
            return NONE;
        }
        looks.startRow(reading, now);
        looks.search(coin);
        return what == 0 ? looks.bestBits : looks.bestWidth;
    }

    public int judge(int looks, int reading) {
        if (!readings.has(reading) || !this.looks.areOpen(looks)) {
            return NO_SUCH;
        }
        this.looks.startRow(reading, now);
        return this.looks.widthBehind(looks);
    }

    public int leans(int reading, int part) {
        return readings.has(reading) && parts.has(part) ? readings.leanOf(reading, part) : HIDDEN;
    }

    public int fits(int guess, int q, int what) {
        if (!isDay(q) || !guesses.has(guess) || !within(what, 0, 2)) {
            return NONE;
        }
        readings.recall(q);
        findings.fit(guess);
        if (what == 2) {
            return findings.fitting;
        }
        return what == 0 ? findings.leastFit : findings.greatestFit;
    }

    public int next(int one, int other, int q, int what) {
        if (!isDay(q) || !guesses.has(one) || !guesses.has(other) || !isEither(what)) {
            return NONE;
        }
        readings.recall(q);
        findings.fit(one);
        int oneFit = findings.leastFit;
        findings.fit(other);
        int otherFit = findings.leastFit;
        if (oneFit == NONE || otherFit == NONE) {
            return NONE;
        }
        findings.tellApart(one, oneFit, other, otherFit);
        return what == 0 ? findings.farthestWave : findings.farthest;
    }

    public int house() {
        if (houses.size >= HOUSES) {
            return NONE;
        }
        houses.size++;
        return houses.size - 1;
    }

    public int print(int house, boolean paper, int from, int to) {
        if (!houses.has(house) || from < -LOUDEST || to > LOUDEST || to < from) {
            return NONE;
        }
        if (paper) {
            return houses.papers >= PAPERS ? NONE : houses.addPaper(house, from, to, now);
        }
        return houses.prints >= PRINTS ? NONE : houses.addPrint(house, from, to, now);
    }

    public int had(int q, int what) {
        return isDay(q) && isEither(what) ? houses.having(q, what == 0) : NONE;
    }

    public boolean letter(int from, int to) {
        if (!houses.has(from) || !houses.has(to) || from == to || houses.letters >= LETTERS) {
            return false;
        }
        houses.send(from, to, now);
        return true;
    }

    public int knows(int house, boolean paper, int number, int day) {
        int told = paper ? houses.papers : houses.prints;
        if (!houses.has(house) || !within(number, 0, told - 1) || !isDay(day)) {
            return NONE;
        }
        houses.settle(day);
        long bit = paper ? Houses.paperBit(number) : Houses.printBit(number);
        return (houses.knownBy(house, day) & bit) != 0 ? 1 : 0;
    }

    public int met() {
        houses.settle(now);
        return meeting.firstDay(now);
    }

    public int sooner(int what) {
        if (!within(what, 0, 3)) {
            return NONE;
        }
        houses.settle(now);
        int day = meeting.firstDay(now);
        meeting.search(day == NONE ? now + 1 : day);
        switch (what) {
            case 0:
                return meeting.bestFrom;
            case 1:
                return meeting.bestTo;
            case 2:
                return meeting.bestDay;
            default:
                return meeting.bestMeeting;
        }
    }

    public int even(int q, int what) {
        if (!isDay(q) || !isEither(what)) {
            return HIDDEN;
        }
        readings.recall(q);
        int directions = findings.meansBy(0);
        if (what == 1) {
            return findings.oneSide();
        }
        return directions < 2 ? HIDDEN : findings.distance();
    }

    public int say(int rule) {
        if (!rules.has(rule)) {
            return NONE;
        }
        for (int q = 0; q <= now; q++) {
            readings.recall(q);
            boolean some = findings.compare();
            rules.set(0, readings.known);
            rules.set(1, some ? findings.alikeTo - findings.alikeFrom : 0);
            rules.set(2, some ? findings.alikeFrom : 0);
            rules.set(3, looks.doneUpTo(q));
            rules.set(4, q);
            if (rules.ask(rule) != 0) {
                return q;
            }
        }
        return NONE;
    }

    public int count(int what) {
        switch (what) {
            case 0:
                return now;
            case 1:
                return laws.size;
            case 2:
                return guesses.size;
            case 3:
                return rules.size;
            case 4:
                return parts.size;
            case 5:
                return readings.size;
            case 6:
                return looks.size;
            case 7:
                return looks.doneUpTo(now);
            case 8:
                return parts.cleanings;
            case 9:
                return houses.size;
            case 10:
                return houses.prints;
            case 11:
                return houses.papers;
            case 12:
                return houses.letters;
            case 13:
                return tape.length;
            default:
                return NONE;
        }
    }

    private Shelf shelfOf(int sort) {
        switch (sort) {
            case 0:
                return laws;
            case 1:
                return guesses;
            case 2:
                return rules;
            default:
                return null;
        }
    }

    /** By the AIM that the LAWS were set to last. */
    private int trueSum() {
        int all = 0;
        for (int i = 0; i < parts.size; i++) {
            all += shine(parts.truly[i], laws.ask(parts.law[i]));
        }
        return all;
    }

    private boolean isDay(int q) {
        return within(q, 0, now);
    }

    private static boolean isEither(int what) {
        return what == 0 || what == 1;
    }

    private static boolean isLoudness(int from, int to) {
        return from >= 0 && to <= LOUDEST && from <= to;
    }

    private static boolean isAim(int d, int a, int h, int w, int l) {
        return within(d, 0, DIRECTIONS - 1) && within(a, 0, TIPS - 1) && within(h, 0, HOURS - 1)
            && within(w, 0, WETS - 1) && within(l, 1, WAVES);
    }

    private static int seasonOf(int day) {
        return day / SEASON_DAYS % SEASONS;
    }

    private static boolean within(int n, int least, int greatest) {
        return n >= least && n <= greatest;
    }

    private static int shine(int loudness, int worth) {
        return loudness * worth / 100;
    }

    private static int spread(int low, int high, int worth) {
        return Math.abs(shine(high, worth) - shine(low, worth));
    }

    /** How many of the rows were told up to q; begun at a guess, as most calls ask for the same DAY again. */
    private static int rowsUpTo(int q, int[] day, int size, int guess) {
        int rows = Math.max(0, Math.min(guess, size));
        while (rows < size && day[rows] <= q) {
            rows++;
        }
        while (rows > 0 && day[rows - 1] > q) {
            rows--;
        }
        return rows;
    }

    /** The bytes that may become a text. */
    static final class Tape {
        static final int LONGEST = 120;
        final int[] bytes = new int[LONGEST];
        int length;

        static int bytesOf(int number) {
            int some = 0;
            for (int shift = 24; shift >= 0; shift -= 8) {
                if ((number >>> shift & 255) != 0) {
                    some++;
                }
            }
            return some;
        }

        void append(int number) {
            for (int shift = 24; shift >= 0; shift -= 8) {
                int one = number >>> shift & 255;
                if (one != 0 && length < LONGEST) {
                    bytes[length] = one;
                    length++;
                }
            }
        }
    }

    /**
     * Finds the FAULT of the TAPE and, where there is none, the rows of a Text. Where a method answers false, the byte
     * that it stopped at is the first one at which no text can go on.
     */
    static final class Parser {
        private static final int DEEPEST = 6;
        private static final int MOST_DIGITS = 4;
        private static final int END = 0;
        private final int[] code = new int[Tape.LONGEST + 1];
        private final Tape tape;
        private int size;
        private String letters = "";
        private int at;

        Parser(Tape tape) {
            this.tape = tape;
        }

        int faultBy(String letters) {
            this.letters = letters;
            at = 0;
            size = 0;
            for (int clauses = 0; clauses <= tape.length; clauses++) {
                if (!clause()) {
                    return at;
                }
                if (!takes(';')) {
                    break;
                }
            }
            return peek() == END ? NONE : at;
        }

        Text compiled() {
            return new Text(Arrays.copyOf(code, size));
        }

        private boolean clause() {
            if (!takes('y') || !takes(':')) {
                return false;
            }
            int sign = peek();
            boolean begun = sign != '!' && sign != '(';
            if (begun) {
                if (!total(0)) {
                    return false;
                }
                if (!compares(peek())) {
                    emit(Text.GIVE, 0);
                    return true;
                }
            }
            if (!condition(0, begun) || !takes('?')) {
                return false;
            }
            emit('?', 0);
            if (!total(0)) {
                return false;
            }
            emit(Text.GIVE, 0);
            return true;
        }

        /**
         * Goes from UNIT to UNIT: an & is emitted behind the UNIT that it joins, a | behind the last UNIT of the TRUTH
         * that it joins. begun: the SUM that the first UNIT begins with has been read.
         */
        private boolean condition(int depth, boolean begun) {
            int or = END;
            int and = END;
            for (int units = 0; units <= tape.length; units++) {
                if (!unit(depth, begun && units == 0)) {
                    return false;
                }
                emit(and, 0);
                int sign = peek();
                and = sign == '&' ? sign : END;
                if (and == END) {
                    emit(or, 0);
                    or = sign == '|' ? sign : END;
                    if (or == END) {
                        return true;
                    }
                }
                at++;
            }
            return false;
        }

        private boolean unit(int depth, boolean begun) {
            int sign = peek();
            if (!begun && depth < DEEPEST && sign == '!') {
                at++;
                boolean sound = unit(depth + 1, false);
                emit(sign, 0);
                return sound;
            }
            if (!begun && depth < DEEPEST && sign == '(') {
                at++;
                return condition(depth + 1, false) && takes(')');
            }
            if (!begun && !total(depth)) {
                return false;
            }
            int comparison = peek();
            if (!compares(comparison)) {
                return false;
            }
            at++;
            boolean sound = total(depth);
            emit(comparison, 0);
            return sound;
        }

        /** Goes from ATOM to ATOM, as condition does from UNIT to UNIT. */
        private boolean total(int depth) {
            int plus = END;
            int times = END;
            for (int atoms = 0; atoms <= tape.length; atoms++) {
                if (!atom(depth)) {
                    return false;
                }
                emit(times, 0);
                int sign = peek();
                times = sign == '*' || sign == '/' ? sign : END;
                if (times == END) {
                    emit(plus, 0);
                    plus = sign == '+' || sign == '-' ? sign : END;
                    if (plus == END) {
                        return true;
                    }
                }
                at++;
            }
            return false;
        }

        private boolean atom(int depth) {
            int sign = peek();
            if (sign == '[' && depth < DEEPEST) {
                at++;
                return total(depth + 1) && takes(']');
            }
            if (sign >= '0' && sign <= '9') {
                int value = number();
                emit(Text.NUMBER, value);
                return value != NONE;
            }
            int letter = sign == END ? NONE : letters.indexOf((char) sign);
            if (letter < 0) {
                return false;
            }
            at++;
            emit(Text.LETTER, letter);
            return true;
        }

        /** NONE, where it has a digit too many. */
        private int number() {
            int value = 0;
            for (int digits = 0; digits <= MOST_DIGITS; digits++) {
                int sign = at < tape.length ? tape.bytes[at] : END;
                if (sign < '0' || sign > '9') {
                    return value;
                }
                if (digits == MOST_DIGITS) {
                    return NONE;
                }
                value = value * 10 + sign - '0';
                at++;
            }
            return NONE;
        }

        private boolean takes(char sign) {
            if (peek() != sign) {
                return false;
            }
            at++;
            return true;
        }

        private int peek() {
            while (at < tape.length && tape.bytes[at] == ' ') {
                at++;
            }
            return at < tape.length ? tape.bytes[at] : END;
        }

        private static boolean compares(int sign) {
            return sign == '=' || sign == '<' || sign == '>';
        }

        /** The end is no sign. */
        private void emit(int sign, int with) {
            if (sign != END && size < code.length) {
                code[size] = with << Text.SIGN_BITS | sign;
                size++;
            }
        }
    }

    /** A LAW, a GUESS or a RULE, its signs standing behind what they join. */
    static final class Text {
        static final int SIGN_BITS = 8;
        static final char NUMBER = '0';
        static final char LETTER = 'y';
        static final char GIVE = ';';
        private static final int BOUND = 1000000;
        private final int[] code;

        Text(int[] code) {
            this.code = code;
        }

        int worthBy(int[] values, int[] stack) {
            int top = 0;
            boolean skips = false;
            for (int i = 0; i < code.length; i++) {
                int sign = code[i] & 255;
                int with = code[i] >> SIGN_BITS;
                if (skips) {
                    skips = sign != GIVE;
                } else if (sign == NUMBER || sign == LETTER) {
                    if (top >= stack.length || sign == LETTER && with >= values.length) {
                        return 0;
                    }
                    stack[top] = sign == NUMBER ? with : values[with];
                    top++;
                } else if (top < 1) {
                    return 0;
                } else if (sign == GIVE) {
                    return stack[top - 1];
                } else if (sign == '?') {
                    top--;
                    skips = stack[top] == 0;
                } else if (sign == '!') {
                    stack[top - 1] = 1 - stack[top - 1];
                } else if (top < 2) {
                    return 0;
                } else {
                    top--;
                    stack[top - 1] = bounded(join(sign, stack[top - 1], stack[top]));
                }
            }
            return 0;
        }

        private static long join(int sign, long x, long y) {
            switch (sign) {
                case '+':
                    return x + y;
                case '-':
                    return x - y;
                case '*':
                    return x * y;
                case '/':
                    return y == 0 ? 0 : x / y;
                case '=':
                    return x == y ? 1 : 0;
                case '<':
                    return x < y ? 1 : 0;
                case '>':
                    return x > y ? 1 : 0;
                case '&':
                    return x != 0 && y != 0 ? 1 : 0;
                default:
                    return x != 0 || y != 0 ? 1 : 0;
            }
        }

        private static int bounded(long n) {
            return (int) Math.max(-BOUND, Math.min(BOUND, n));
        }
    }

    /** The texts of one sort, and the worths of their letters for the next question. */
    static final class Shelf {
        final String letters;
        final Text[] texts;
        final int[] values;
        final int[] stack = new int[Tape.LONGEST];
        int size;

        Shelf(String letters, int most) {
            this.letters = letters;
            texts = new Text[most];
            values = new int[letters.length()];
        }

        boolean isFull() {
            return size >= texts.length;
        }

        boolean has(int number) {
            return number >= 0 && number < size;
        }

        int add(Text text) {
            if (isFull()) {
                return NONE;
            }
            texts[size] = text;
            size++;
            return size - 1;
        }

        void set(int letter, int value) {
            if (letter >= 0 && letter < values.length) {
                values[letter] = value;
            }
        }

        void setAim(int d, int a, int h, int e, int w, int l) {
            set(0, d);
            set(1, a);
            set(2, h);
            set(3, e);
            set(4, w);
            set(5, l);
        }

        int ask(int number) {
            Text text = has(number) ? texts[number] : null;
            return text == null ? 0 : text.worthBy(values, stack);
        }
    }

    /** PARTS, with the LOOKS and CLEANINGS that changed their SPANS in the order in which they were DONE. */
    static final class Parts {
        private static final int CHANGES = LOOKS + CLEANINGS;
        final int[] law = new int[PARTS];
        final int[] day = new int[PARTS];
        final int[] truly = new int[PARTS];
        int size;
        int cleanings;
        /** How many PARTS and changes, and the SPANS by them, as last recalled. */
        int known;
        int applied;
        final int[] low = new int[PARTS];
        final int[] high = new int[PARTS];
        private final int[] toldFrom = new int[PARTS];
        private final int[] toldTo = new int[PARTS];
        private final int[] changePart = new int[CHANGES];
        private final int[] changeFrom = new int[CHANGES];
        private final int[] changeTo = new int[CHANGES];
        private final int[] changeDay = new int[CHANGES];
        private final boolean[] cleaned = new boolean[CHANGES];
        private int changes;

        boolean has(int part) {
            return part >= 0 && part < size;
        }

        int add(int law, int from, int to, int truly, int now) {
            if (size >= PARTS) {
                return NONE;
            }
            this.law[size] = law;
            this.truly[size] = truly;
            toldFrom[size] = from;
            toldTo[size] = to;
            day[size] = now;
            size++;
            return size - 1;
        }

        void change(int part, int from, int to, int now, boolean cleaning) {
            if (changes >= CHANGES) {
                return;
            }
            changePart[changes] = part;
            changeFrom[changes] = from;
            changeTo[changes] = to;
            changeDay[changes] = now;
            cleaned[changes] = cleaning;
            changes++;
        }

        /** The same numbers of PARTS and changes are always the same SPANS. */
        void recall(int q) {
            int toldParts = rowsUpTo(q, day, size, known);
            int toldChanges = rowsUpTo(q, changeDay, changes, applied);
            if (toldParts == known && toldChanges == applied) {
                return;
            }
            known = toldParts;
            applied = toldChanges;
            for (int i = 0; i < known; i++) {
                low[i] = toldFrom[i];
                high[i] = toldTo[i];
            }
            for (int i = 0; i < applied; i++) {
                apply(i);
            }
        }

        private void apply(int change) {
            int part = changePart[change];
            int from = changeFrom[change];
            int to = changeTo[change];
            boolean sets = cleaned[change] || apart(low[part], high[part], from, to);
            low[part] = sets ? from : Math.max(low[part], from);
            high[part] = sets ? to : Math.min(high[part], to);
        }

        static boolean apart(int low, int high, int from, int to) {
            return from > high || to < low;
        }
    }

    /** READINGS, and what is LEFT over of each by the SPANS as last recalled. */
    static final class Readings {
        private static final int UNASKED = HIDDEN;
        final int[] aims = new int[READINGS * AIM_LETTERS];
        final int[] day = new int[READINGS];
        int size;
        /** How many READINGS, and of them what is LEFT, as last recalled. */
        int known;
        final int[] lower = new int[READINGS];
        final int[] upper = new int[READINGS];
        private final int[] number = new int[READINGS];
        private final int[] worths = new int[READINGS * LAWS];
        /** How many PARTS and changes what is LEFT was worked out by. */
        private int leftParts;
        private int leftChanges;
        private final Shelf laws;
        private final Parts parts;

        Readings(Shelf laws, Parts parts) {
            this.laws = laws;
            this.parts = parts;
            Arrays.fill(worths, UNASKED);
        }

        boolean has(int reading) {
            return reading >= 0 && reading < size;
        }

        /** At the AIM that the LAWS were set to last. */
        int add(int number, int now) {
            if (size >= READINGS) {
                return NONE;
            }
            System.arraycopy(laws.values, 0, aims, size * AIM_LETTERS, AIM_LETTERS);
            this.number[size] = number;
            day[size] = now;
            size++;
            return size - 1;
        }

        void recall(int q) {
            parts.recall(q);
            boolean same = leftParts == parts.known && leftChanges == parts.applied;
            int told = rowsUpTo(q, day, size, known);
            for (int i = same ? known : 0; i < told; i++) {
                leave(i);
            }
            known = told;
            leftParts = parts.known;
            leftChanges = parts.applied;
        }

        private void leave(int reading) {
            int least = 0;
            int most = 0;
            for (int i = 0; i < parts.known; i++) {
                int worth = leanOf(reading, i);
                int one = shine(parts.low[i], worth);
                int other = shine(parts.high[i], worth);
                least += Math.min(one, other);
                most += Math.max(one, other);
            }
            lower[reading] = number[reading] - most;
            upper[reading] = number[reading] - least;
        }

        /** Kept once asked for: neither LAWS nor AIMS ever change. */
        int leanOf(int reading, int part) {
            int law = parts.law[part];
            int at = reading * LAWS + law;
            if (worths[at] == UNASKED) {
                System.arraycopy(aims, reading * AIM_LETTERS, laws.values, 0, AIM_LETTERS);
                worths[at] = laws.ask(law);
            }
            return worths[at];
        }

        int widestPart(int reading) {
            int widest = NONE;
            int width = NONE;
            for (int i = 0; i < parts.known; i++) {
                int own = spread(parts.low[i], parts.high[i], leanOf(reading, i));
                if (own > width) {
                    width = own;
                    widest = i;
                }
            }
            return widest;
        }
    }

    /** What the READINGS as last recalled have alike, with what that goes, and which GUESSES fit it. */
    static final class Findings {
        private static final int VALUES = WAVES + 1;
        int alikeFrom;
        int alikeTo;
        int leastFit;
        int greatestFit;
        int fitting;
        int farthestWave;
        int farthest;
        private final Readings readings;
        private final Shelf guesses;
        private final long[] middles = new long[VALUES];
        private final int[] many = new int[VALUES];
        private final int[] floor = new int[VALUES];
        private final int[] ceiling = new int[VALUES];

        Findings(Readings readings, Shelf guesses) {
            this.readings = readings;
            this.guesses = guesses;
        }

        /** Whether there is anything ALIKE. */
        boolean compare() {
            if (readings.known == 0) {
                return false;
            }
            alikeFrom = readings.lower[0];
            alikeTo = readings.upper[0];
            for (int i = 1; i < readings.known; i++) {
                alikeFrom = Math.max(alikeFrom, readings.lower[i]);
                alikeTo = Math.min(alikeTo, readings.upper[i]);
            }
            return alikeFrom <= alikeTo;
        }

        /** Sorts the MIDDLES by a letter of the AIMS: how many values of it there are. */
        int meansBy(int letter) {
            Arrays.fill(middles, 0);
            Arrays.fill(many, 0);
            int values = 0;
            for (int i = 0; i < readings.known; i++) {
                int value = readings.aims[i * AIM_LETTERS + letter];
                if (many[value] == 0) {
                    values++;
                }
                middles[value] += (readings.lower[i] + readings.upper[i]) / 2;
                many[value]++;
            }
            return values;
        }

        /** Of the greatest mean from the least, as last sorted. */
        int distance() {
            long least = 0;
            long greatest = 0;
            boolean some = false;
            for (int i = 0; i < VALUES; i++) {
                if (many[i] > 0) {
                    long mean = middles[i] / many[i];
                    least = some ? Math.min(least, mean) : mean;
                    greatest = some ? Math.max(greatest, mean) : mean;
                    some = true;
                }
            }
            return (int) (greatest - least);
        }

        /** Behind a sorting by direction. */
        int oneSide() {
            int widest = HIDDEN;
            int half = DIRECTIONS / 2;
            for (int i = 0; i < half; i++) {
                if (many[i] > 0 && many[i + half] > 0) {
                    long apart = middles[i] / many[i] - middles[i + half] / many[i + half];
                    widest = Math.max(widest, (int) Math.abs(apart));
                }
            }
            return widest;
        }

        void fit(int guess) {
            leastFit = NONE;
            greatestFit = NONE;
            fitting = 0;
            boundWaves();
            for (int a = 0; a <= GREATEST_OPEN; a++) {
                if (suits(guess, a)) {
                    leastFit = leastFit == NONE ? a : leastFit;
                    greatestFit = a;
                    fitting++;
                }
            }
        }

        /** READINGS of the same wave bound a GUESS together, so each wave is asked for once. */
        private void boundWaves() {
            Arrays.fill(many, 0);
            for (int i = 0; i < readings.known; i++) {
                int wave = readings.aims[i * AIM_LETTERS + AIM_LETTERS - 1];
                boolean first = many[wave] == 0;
                floor[wave] = first ? readings.lower[i] : Math.max(floor[wave], readings.lower[i]);
                ceiling[wave] = first ? readings.upper[i] : Math.min(ceiling[wave], readings.upper[i]);
                many[wave]++;
            }
        }

        private boolean suits(int guess, int a) {
            for (int wave = 1; wave <= WAVES; wave++) {
                if (many[wave] > 0) {
                    int worth = guessed(guess, wave, a);
                    if (worth < floor[wave] || worth > ceiling[wave]) {
                        return false;
                    }
                }
            }
            return true;
        }

        private int guessed(int guess, int wave, int a) {
            guesses.set(0, wave);
            guesses.set(1, a);
            return guesses.ask(guess);
        }

        void tellApart(int one, int oneFit, int other, int otherFit) {
            farthest = NONE;
            for (int wave = 1; wave <= WAVES; wave++) {
                int apart = Math.abs(guessed(one, wave, oneFit) - guessed(other, wave, otherFit));
                if (apart > farthest) {
                    farthest = apart;
                    farthestWave = wave;
                }
            }
        }
    }

    /** Which PARTS, known wrongly, could be all that is LEFT over of the READINGS as last recalled. */
    static final class Blame {
        int least;
        int greatest;
        private final Readings readings;
        private final Parts parts;
        /** Of each READING that has something LEFT over: how much it lacks, and how much of it each PART could be. */
        private final int[] lack = new int[READINGS];
        private final int[] gain = new int[READINGS * PARTS];
        private int lacking;
        private int lastLacking;
        private int found;

        Blame(Readings readings, Parts parts) {
            this.readings = readings;
            this.parts = parts;
        }

        /** Whether there is a loudness that the PART COULD have; what it shines goes one way with its loudness. */
        boolean narrowDown(int part) {
            least = 0;
            greatest = LOUDEST;
            for (int i = 0; i < readings.known; i++) {
                int worth = readings.leanOf(i, part);
                int one = shine(parts.low[part], worth);
                int other = shine(parts.high[part], worth);
                int floor = readings.lower[i] + Math.max(one, other);
                int ceiling = readings.upper[i] + Math.min(one, other);
                while (least <= greatest && !within(shine(least, worth), floor, ceiling)) {
                    least++;
                }
                while (least <= greatest && !within(shine(greatest, worth), floor, ceiling)) {
                    greatest--;
                }
            }
            return least <= greatest;
        }

        int fewest() {
            lacking = 0;
            lastLacking = 0;
            for (int i = 0; i < readings.known; i++) {
                if (readings.lower[i] > 0 || readings.upper[i] < 0) {
                    weigh(i);
                }
            }
            if (!covers((1 << parts.known) - 1)) {
                return NONE;
            }
            for (int some = 0; some <= parts.known; some++) {
                if (choose(0, some, 0)) {
                    return found;
                }
            }
            return NONE;
        }

        private void weigh(int reading) {
            boolean above = readings.lower[reading] > 0;
            lack[lacking] = above ? readings.lower[reading] : -readings.upper[reading];
            for (int i = 0; i < parts.known; i++) {
                int worth = readings.leanOf(reading, i);
                int one = shine(parts.low[i], worth);
                int other = shine(parts.high[i], worth);
                int loudest = shine(LOUDEST, worth);
                gain[lacking * PARTS + i] = above
                    ? Math.max(0, loudest) - Math.max(one, other)
                    : Math.min(one, other) - Math.min(0, loudest);
            }
            lacking++;
        }

        /** Goes through the sets of so many PARTS more in the order in which the document prefers them. */
        private boolean choose(int from, int more, int bits) {
            if (more == 0) {
                found = bits;
                return covers(bits);
            }
            for (int i = from; i + more <= parts.known; i++) {
                if (choose(i + 1, more - 1, bits | 1 << i)) {
                    return true;
                }
            }
            return false;
        }

        /** Begins at the READING that failed last, as it will most likely fail again. */
        private boolean covers(int bits) {
            for (int i = 0; i < lacking; i++) {
                int row = lastLacking + i < lacking ? lastLacking + i : lastLacking + i - lacking;
                int missing = lack[row];
                for (int part = 0; part < parts.known; part++) {
                    if ((bits >> part & 1) != 0) {
                        missing -= gain[row * PARTS + part];
                    }
                }
                if (missing > 0) {
                    lastLacking = row;
                    return false;
                }
            }
            return true;
        }
    }

    /** LOOKS, those DONE and the rows of those that could be. */
    static final class Looks {
        int size;
        int bestBits;
        int bestWidth;
        private final int[] part = new int[LOOKS];
        private final int[] from = new int[LOOKS];
        private final int[] to = new int[LOOKS];
        private final int[] cost = new int[LOOKS];
        private final int[] doneDay = new int[LOOKS];
        private final int[] aheadFrom = new int[LOOKS];
        private final int[] aheadTo = new int[LOOKS];
        private final int[] behindFrom = new int[LOOKS];
        private final int[] behindTo = new int[LOOKS];
        private final int[] rowLow = new int[PARTS];
        private final int[] rowHigh = new int[PARTS];
        private final Readings readings;
        private final Parts parts;
        private int rowReading;
        private int rowWidth;
        private int bestCoin;

        Looks(Readings readings, Parts parts) {
            this.readings = readings;
            this.parts = parts;
        }

        boolean has(int look) {
            return look >= 0 && look < size;
        }

        boolean isDone(int look) {
            return doneDay[look] != NONE;
        }

        int add(int part, int from, int to, int cost) {
            if (size >= LOOKS) {
                return NONE;
            }
            this.part[size] = part;
            this.from[size] = from;
            this.to[size] = to;
            this.cost[size] = cost;
            doneDay[size] = NONE;
            size++;
            return size - 1;
        }

        void carryOut(int look, int now) {
            int at = part[look];
            parts.recall(now);
            aheadFrom[look] = parts.low[at];
            aheadTo[look] = parts.high[at];
            parts.change(at, from[look], to[look], now, false);
            parts.recall(now);
            behindFrom[look] = parts.low[at];
            behindTo[look] = parts.high[at];
            doneDay[look] = now;
        }

        /** All but the LOOK's own PART is the same ahead of it and behind it. */
        int gain(int look, int reading) {
            int worth = readings.leanOf(reading, part[look]);
            return spread(aheadFrom[look], aheadTo[look], worth) - spread(behindFrom[look], behindTo[look], worth);
        }

        int idle() {
            int bits = 0;
            for (int i = 0; i < size; i++) {
                if (isDone(i) && aheadFrom[i] == behindFrom[i] && aheadTo[i] == behindTo[i]) {
                    bits |= 1 << i;
                }
            }
            return bits;
        }

        int doneUpTo(int q) {
            int some = 0;
            for (int i = 0; i < size; i++) {
                if (isDone(i) && doneDay[i] <= q) {
                    some++;
                }
            }
            return some;
        }

        boolean areOpen(int bits) {
            if (bits < 0 || bits >> size != 0) {
                return false;
            }
            for (int i = 0; i < size; i++) {
                if ((bits >> i & 1) != 0 && isDone(i)) {
                    return false;
                }
            }
            return true;
        }

        void startRow(int reading, int now) {
            parts.recall(now);
            rowReading = reading;
            rowWidth = 0;
            for (int i = 0; i < parts.known; i++) {
                rowLow[i] = parts.low[i];
                rowHigh[i] = parts.high[i];
                rowWidth += rowSpread(i);
            }
        }

        int widthBehind(int bits) {
            for (int i = 0; i < size; i++) {
                if ((bits >> i & 1) != 0) {
                    int ahead = rowSpread(part[i]);
                    cut(i);
                    rowWidth += rowSpread(part[i]) - ahead;
                }
            }
            return rowWidth;
        }

        void search(int coin) {
            bestWidth = rowWidth;
            bestCoin = NONE;
            bestBits = 0;
            choose(0, coin, rowWidth, 0);
        }

        /** Of rows as good the one with the lower LOOK comes first, so a later one must be better. */
        private void choose(int look, int coin, int width, int bits) {
            if (look >= size) {
                if (width < bestWidth || width == bestWidth && coin > bestCoin) {
                    bestWidth = width;
                    bestCoin = coin;
                    bestBits = bits;
                }
                return;
            }
            if (!isDone(look) && cost[look] <= coin) {
                int at = part[look];
                int low = rowLow[at];
                int high = rowHigh[at];
                int ahead = rowSpread(at);
                cut(look);
                choose(look + 1, coin - cost[look], width + rowSpread(at) - ahead, bits | 1 << look);
                rowLow[at] = low;
                rowHigh[at] = high;
            }
            choose(look + 1, coin, width, bits);
        }

        private int rowSpread(int at) {
            return spread(rowLow[at], rowHigh[at], readings.leanOf(rowReading, at));
        }

        private void cut(int look) {
            int at = part[look];
            boolean apart = Parts.apart(rowLow[at], rowHigh[at], from[look], to[look]);
            rowLow[at] = apart ? from[look] : Math.max(rowLow[at], from[look]);
            rowHigh[at] = apart ? to[look] : Math.min(rowHigh[at], to[look]);
        }
    }

    /** HOUSES, PRINTS, FORETOLD ones and LETTERS; what a HOUSE knows is kept as bits, PRINTS lowest. */
    static final class Houses {
        int size;
        int prints;
        int papers;
        int letters;
        final boolean[] busy = new boolean[LAST_DAY + 1];
        final int[] letterFrom = new int[LETTERS];
        final int[] letterTo = new int[LETTERS];
        final int[] letterDay = new int[LETTERS];
        private final int[] printFrom = new int[PRINTS];
        private final int[] printTo = new int[PRINTS];
        private final int[] printDay = new int[PRINTS];
        private final int[] paperFrom = new int[PAPERS];
        private final int[] paperTo = new int[PAPERS];
        /** Of each PRINT that HAS it: the FORETOLD ones that it meets. */
        private final long[] meets = new long[PRINTS];
        /** All that meets something: the rest never makes two MET. */
        long matters;
        private final long[] told = new long[(LAST_DAY + 1) * HOUSES];
        private final long[] known = new long[(LAST_DAY + 1) * HOUSES];
        /** How many DAYS' ends stand in known. */
        private int settled;

        static long printBit(int number) {
            return 1L << number;
        }

        static long paperBit(int number) {
            return 1L << PRINTS + number;
        }

        boolean has(int house) {
            return house >= 0 && house < size;
        }

        int addPrint(int house, int from, int to, int now) {
            if (prints >= PRINTS) {
                return NONE;
            }
            printFrom[prints] = from;
            printTo[prints] = to;
            printDay[prints] = now;
            for (int i = 0; i < papers; i++) {
                compare(prints, i);
            }
            tell(house, printBit(prints), now);
            prints++;
            return prints - 1;
        }

        int addPaper(int house, int from, int to, int now) {
            if (papers >= PAPERS) {
                return NONE;
            }
            paperFrom[papers] = from;
            paperTo[papers] = to;
            for (int i = 0; i < prints; i++) {
                compare(i, papers);
            }
            tell(house, paperBit(papers), now);
            papers++;
            return papers - 1;
        }

        private void compare(int print, int paper) {
            boolean common = printFrom[print] <= paperTo[paper] && paperFrom[paper] <= printTo[print];
            if (printFrom[print] > 0 && common) {
                meets[print] |= paperBit(paper);
                matters |= printBit(print) | paperBit(paper);
            }
        }

        private void tell(int house, long bit, int now) {
            told[now * HOUSES + house] |= bit;
            busy[now] = true;
            settled = Math.min(settled, now);
        }

        void send(int from, int to, int now) {
            if (letters >= LETTERS) {
                return;
            }
            letterFrom[letters] = from;
            letterTo[letters] = to;
            letterDay[letters] = now;
            letters++;
            busy[now] = true;
            settled = Math.min(settled, now);
        }

        int having(int q, boolean has) {
            int some = 0;
            for (int i = 0; i < prints; i++) {
                boolean sure = printFrom[i] > 0;
                if (printDay[i] <= q && printTo[i] > 0 && sure == has) {
                    some++;
                }
            }
            return some;
        }

        /** What HOUSES know at the ends of all DAYS up to this one; DAYS that are over never change. */
        void settle(int day) {
            for (int i = settled; i <= day; i++) {
                for (int house = 0; house < HOUSES; house++) {
                    known[i * HOUSES + house] = knownBy(house, i - 1) | toldBy(house, i);
                }
                if (busy[i]) {
                    deliver(i);
                }
            }
            settled = Math.max(settled, day + 1);
        }

        private void deliver(int day) {
            for (int i = 0; i < letters; i++) {
                if (letterDay[i] == day) {
                    known[day * HOUSES + letterTo[i]] |= knownBy(letterFrom[i], day - 1);
                }
            }
        }

        long knownBy(int house, int day) {
            return day < 0 ? 0 : known[day * HOUSES + house];
        }

        long toldBy(int house, int day) {
            return told[day * HOUSES + house];
        }

        /** Whether a HOUSE that knows these has MET. */
        boolean areMet(long bits) {
            if ((bits & matters) >> PRINTS == 0) {
                return false;
            }
            for (int i = 0; i < prints; i++) {
                if ((bits & printBit(i)) != 0 && (bits & meets[i]) != 0) {
                    return true;
                }
            }
            return false;
        }
    }

    /** When two had MET, and by which LETTER they had SOONER; the HOUSES are settled ahead of each call. */
    static final class Meeting {
        int bestFrom;
        int bestTo;
        int bestDay;
        int bestMeeting;
        private final Houses houses;
        private final long[] ahead = new long[HOUSES];
        private final long[] behind = new long[HOUSES];

        Meeting(Houses houses) {
            this.houses = houses;
        }

        int firstDay(int now) {
            for (int day = 0; day <= now; day++) {
                for (int house = 0; houses.busy[day] && house < houses.size; house++) {
                    if (houses.areMet(houses.knownBy(house, day))) {
                        return day;
                    }
                }
            }
            return NONE;
        }

        /**
         * The best LETTER by which they had MET ahead of a DAY. A LETTER that tells nothing that one of the DAY
         * before would not have told is never better than that.
         */
        void search(int limit) {
            bestFrom = NONE;
            bestTo = NONE;
            bestDay = NONE;
            bestMeeting = NONE;
            int bound = limit;
            for (int day = 1; day < bound; day++) {
                for (int from = 0; from < houses.size; from++) {
                    long gift = houses.knownBy(from, day - 1) & houses.matters;
                    if (gift != (houses.knownBy(from, day - 2) & houses.matters)) {
                        bound = tryAll(day, from, gift, bound);
                    }
                }
            }
        }

        private int tryAll(int day, int from, long gift, int limit) {
            int bound = limit;
            for (int to = 0; to < houses.size; to++) {
                if (to != from && (gift & ~houses.knownBy(to, day)) != 0) {
                    int meeting = meetingBy(day, to, gift, bound);
                    if (meeting < bound) {
                        bound = meeting;
                        bestFrom = from;
                        bestTo = to;
                        bestDay = day;
                        bestMeeting = meeting;
                    }
                }
            }
            return bound;
        }

        /** The DAY on which they had MET if a HOUSE were given this on that DAY; limit, if not ahead of it. */
        private int meetingBy(int day, int to, long gift, int limit) {
            for (int house = 0; house < HOUSES; house++) {
                behind[house] = houses.knownBy(house, day);
            }
            behind[to] |= gift;
            if (houses.areMet(behind[to])) {
                return day;
            }
            int letter = rowsUpTo(day, houses.letterDay, houses.letters, 0);
            for (int i = day + 1; i < limit; i++) {
                if (houses.busy[i]) {
                    letter = passDay(i, letter);
                    if (anyMet()) {
                        return i;
                    }
                }
            }
            return limit;
        }

        /** The first LETTER that is of a later DAY. */
        private int passDay(int day, int firstLetter) {
            for (int house = 0; house < HOUSES; house++) {
                ahead[house] = behind[house];
                behind[house] |= houses.toldBy(house, day);
            }
            int letter = firstLetter;
            while (letter < houses.letters && houses.letterDay[letter] == day) {
                behind[houses.letterTo[letter]] |= ahead[houses.letterFrom[letter]];
                letter++;
            }
            return letter;
        }

        private boolean anyMet() {
            for (int house = 0; house < houses.size; house++) {
                if (behind[house] != ahead[house] && houses.areMet(behind[house])) {
                    return true;
                }
            }
            return false;
        }
    }
}
