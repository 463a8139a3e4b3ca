/**
 * Promises meeting in one story of nine DAYS and one of four SEASONS: what was told on different DAYS, asked on each
 * DAY as known in each q that is over. All answers are worked out by hand from the document.
 */
public final class StoryTest {
    private static final int NONE = HissHorn.NONE;
    private static final int HIDDEN = HissHorn.HIDDEN;
    private static final int LAST = 8;

    /** By q, from and to: what the two PARTS are known to. */
    private static final int[][] SPAN_0 =
        {{10, 50}, {10, 50}, {10, 50}, {10, 50}, {10, 50}, {20, 50}, {20, 50}, {20, 50}, {60, 70}};
    private static final int[][] SPAN_1 = {{NONE, NONE}, {NONE, NONE}, {NONE, NONE}, {0, 100}, {0, 100}, {0, 100},
        {0, 100}, {50, 60}, {50, 60}};
    /** By q: what is LEFT over of the three READINGS, and what they have ALIKE. */
    private static final int[][] LEFT_0 =
        {{HIDDEN, HIDDEN}, {10, 50}, {10, 50}, {10, 50}, {10, 50}, {10, 40}, {10, 40}, {10, 40}, {-10, 0}};
    private static final int[][] LEFT_1 = {{HIDDEN, HIDDEN}, {HIDDEN, HIDDEN}, {HIDDEN, HIDDEN}, {HIDDEN, HIDDEN},
        {-10, 110}, {-10, 100}, {-10, 100}, {30, 68}, {10, 28}};
    private static final int[][] LEFT_2 = {{HIDDEN, HIDDEN}, {HIDDEN, HIDDEN}, {HIDDEN, HIDDEN}, {HIDDEN, HIDDEN},
        {HIDDEN, HIDDEN}, {HIDDEN, HIDDEN}, {-15, 55}, {5, 39}, {-15, -1}};
    private static final int[][] ALIKE = {{HIDDEN, HIDDEN}, {10, 50}, {10, 50}, {10, 50}, {10, 50}, {10, 40}, {10, 40},
        {30, 39}, {HIDDEN, HIDDEN}};
    /** By q: MIDDLES are 30, then 30 50, then 25 45, then 25 45 20, then 25 49 22, then -5 19 -8. */
    private static final int[] GOES_D = {HIDDEN, 0, 0, 0, 20, 20, 25, 27, 27};
    private static final int[] GOES_A = {HIDDEN, 0, 0, 0, 20, 20, 7, 10, 10};
    private static final int[] EVEN = {HIDDEN, HIDDEN, HIDDEN, HIDDEN, 20, 20, 25, 27, 27};
    private static final int[] ONE_SIDE = {HIDDEN, HIDDEN, HIDDEN, HIDDEN, 20, 20, 20, 24, 24};
    private static final int[][] COULD_0 =
        {{0, 400}, {60, 60}, {60, 60}, {60, 60}, {60, 60}, {60, 60}, {60, 60}, {NONE, NONE}, {NONE, NONE}};
    private static final int[] SETS = {0, 1, 1, 1, 1, 1, 1, 1, 1};
    /** By q: the least FIT, the greatest, how many. */
    private static final int[][] FITS_0 = {{0, 60, 61}, {10, 50, 41}, {10, 50, 41}, {10, 50, 41}, {10, 50, 41},
        {10, 40, 31}, {10, 40, 31}, {30, 39, 10}, {NONE, NONE, 0}};
    private static final int[][] FITS_1 = {{0, 60, 61}, {10, 50, 41}, {10, 50, 41}, {10, 50, 41}, {10, 50, 41},
        {10, 40, 31}, {10, 13, 4}, {NONE, NONE, 0}, {NONE, NONE, 0}};
    private static final int[][] NEXT =
        {{1, 0}, {40, 390}, {40, 390}, {40, 390}, {40, 390}, {40, 390}, {40, 390}, {NONE, NONE}, {NONE, NONE}};
    private static final int[][] HAD =
        {{0, 0}, {1, 0}, {1, 0}, {1, 0}, {1, 0}, {1, 1}, {1, 1}, {1, 1}, {1, 1}};
    /** Of each RULE the DAY on which it is SAID. */
    private static final int[] SAID = {7, 5, 7, 8, 0};

    public static void main(String[] args) {
        for (int now = 0; now <= LAST; now++) {
            knownOfParts(now);
            knownOfGuesses(now);
            knownOfHouses(now);
            asOfNow(now);
        }
        knownBackwards();
        looksInTheEnd();
        seasons();
        readme();
        Due.end();
    }

    /** The story up to the end of a DAY, with what is refused told in between. */
    private static HissHorn told(int now) {
        HissHorn horn = new HissHorn();
        tellFirst(horn);
        for (int day = 1; day <= now; day++) {
            Due.is("days(1)", horn.days(1), day);
            tell(horn, day);
            horn.days(61);
            horn.part(0, 7, 6, 0);
            horn.read(16, 0, 0, 0, 1, 0);
            horn.letter(1, 1);
        }
        return horn;
    }

    private static void tellFirst(HissHorn horn) {
        Due.text(horn, 0, "y:100");
        Due.text(horn, 0, "y:0-d*10");
        Due.text(horn, 1, "y:a");
        Due.text(horn, 1, "y: a * l");
        Due.text(horn, 2, "y:n>1&g<21?1");
        Due.text(horn, 2, "y:k");
        Due.text(horn, 2, "y:b=30?t");
        Due.text(horn, 2, "y:k>1&g=0&b=0?1");
        Due.text(horn, 2, "y:t=0&n=0&g=0?1");
        horn.part(0, 10, 50, 30);
        horn.look(0, 20, 60, 3);
        horn.look(0, 60, 70, 2);
        for (int i = 0; i < 3; i++) horn.house();
    }

    private static void tell(HissHorn horn, int day) {
        switch (day) {
            case 1 -> {
                horn.read(0, 0, 0, 0, 1, 60);
                horn.print(0, false, 5, 9);
            }
            case 2 -> horn.letter(0, 1);
            case 3 -> {
                horn.part(1, 0, 100, 40);
                horn.print(2, true, 9, 12);
            }
            case 4 -> {
                horn.read(8, 1, 6, 2, 2, 40);
                horn.letter(2, 1);
                horn.look(1, 0, 400, 1);
            }
            case 5 -> {
                horn.done(0);
                horn.print(1, false, -5, 3);
            }
            case 6 -> horn.read(4, 1, 6, 2, 4, 35);
            case 7 -> {
                horn.clean(1, 50, 60, 55);
                horn.look(0, 62, 66, 4);
                horn.look(1, 55, 80, 4);
            }
            default -> {
                horn.done(1);
                horn.done(2);
            }
        }
    }

    private static String on(int now, String call, int q) {
        return "on DAY " + now + ", as known in " + q + ": " + call;
    }

    private static void knownOfParts(int now) {
        HissHorn horn = told(now);
        for (int q = 0; q <= now; q++) {
            partsIn(horn, now, q);
        }
        Due.is("span of tomorrow", horn.span(0, now + 1, 0), NONE);
        Due.is("left of tomorrow", horn.left(0, now + 1, 0), HIDDEN);
        Due.is("alike of tomorrow", horn.alike(now + 1, 0), HIDDEN);
        Due.is("goes of tomorrow", horn.goes(now + 1, 0), HIDDEN);
        Due.is("even of tomorrow", horn.even(now + 1, 0), HIDDEN);
        Due.is("could of tomorrow", horn.could(0, now + 1, 0), NONE);
        Due.is("sets of tomorrow", horn.sets(now + 1), NONE);
    }

    private static void partsIn(HissHorn horn, int now, int q) {
        for (int what = 0; what <= 1; what++) {
            Due.is(on(now, "span of PART 0", q), horn.span(0, q, what), SPAN_0[q][what]);
            Due.is(on(now, "span of PART 1", q), horn.span(1, q, what), SPAN_1[q][what]);
            Due.is(on(now, "left of READING 0", q), horn.left(0, q, what), LEFT_0[q][what]);
            Due.is(on(now, "left of READING 1", q), horn.left(1, q, what), LEFT_1[q][what]);
            Due.is(on(now, "left of READING 2", q), horn.left(2, q, what), LEFT_2[q][what]);
            Due.is(on(now, "alike", q), horn.alike(q, what), ALIKE[q][what]);
            Due.is(on(now, "could of PART 0", q), horn.could(0, q, what), COULD_0[q][what]);
            Due.is(on(now, "could of PART 1", q), horn.could(1, q, what), NONE);
        }
        Due.is(on(now, "goes with d", q), horn.goes(q, 0), GOES_D[q]);
        Due.is(on(now, "goes with a", q), horn.goes(q, 1), GOES_A[q]);
        Due.is(on(now, "goes with h", q), horn.goes(q, 2), GOES_A[q]);
        Due.is(on(now, "goes with e", q), horn.goes(q, 3), q == 0 ? HIDDEN : 0);
        Due.is(on(now, "goes with w", q), horn.goes(q, 4), GOES_A[q]);
        Due.is(on(now, "goes with l", q), horn.goes(q, 5), GOES_D[q]);
        Due.is(on(now, "even", q), horn.even(q, 0), EVEN[q]);
        Due.is(on(now, "one side", q), horn.even(q, 1), ONE_SIDE[q]);
        Due.is(on(now, "sets", q), horn.sets(q), SETS[q]);
        if (q >= 4) {
            Due.is(on(now, "most of READING 1", q), horn.most(1, q), q < 7 ? 1 : 0);
            Due.is(on(now, "most of READING 0", q), horn.most(0, q), 0);
        }
    }

    private static void knownOfGuesses(int now) {
        HissHorn horn = told(now);
        for (int q = 0; q <= now; q++) {
            for (int what = 0; what <= 2; what++) {
                Due.is(on(now, "fits of GUESS 0", q), horn.fits(0, q, what), FITS_0[q][what]);
                Due.is(on(now, "fits of GUESS 1", q), horn.fits(1, q, what), FITS_1[q][what]);
            }
            for (int what = 0; what <= 1; what++) {
                Due.is(on(now, "next", q), horn.next(0, 1, q, what), NEXT[q][what]);
                Due.is(on(now, "next the other way", q), horn.next(1, 0, q, what), NEXT[q][what]);
            }
        }
        Due.is("fits of tomorrow", horn.fits(0, now + 1, 2), NONE);
        Due.is("next of tomorrow", horn.next(0, 1, now + 1, 0), NONE);
        for (int rule = 0; rule < SAID.length; rule++) {
            Due.is("RULE " + rule + " on DAY " + now, horn.say(rule), SAID[rule] <= now ? SAID[rule] : NONE);
        }
    }

    /** PRINT 0 is told to HOUSE 1 on DAY 2, what was FORETOLD on DAY 4: there they meet. */
    private static void knownOfHouses(int now) {
        HissHorn horn = told(now);
        for (int q = 0; q <= now; q++) {
            Due.is(on(now, "had", q), horn.had(q, 0), HAD[q][0]);
            Due.is(on(now, "could have had", q), horn.had(q, 1), HAD[q][1]);
            Due.is(on(now, "HOUSE 0 knows its own", q), horn.knows(0, false, 0, q), now < 1 ? NONE : q >= 1 ? 1 : 0);
            Due.is(on(now, "HOUSE 1 knows it", q), horn.knows(1, false, 0, q), now < 1 ? NONE : q >= 2 ? 1 : 0);
            Due.is(on(now, "HOUSE 2 knows it", q), horn.knows(2, false, 0, q), now < 1 ? NONE : 0);
            Due.is(on(now, "HOUSE 2 FORETOLD it", q), horn.knows(2, true, 0, q), now < 3 ? NONE : q >= 3 ? 1 : 0);
            Due.is(on(now, "HOUSE 1 was told that", q), horn.knows(1, true, 0, q), now < 3 ? NONE : q >= 4 ? 1 : 0);
            Due.is(on(now, "HOUSE 0 was not", q), horn.knows(0, true, 0, q), now < 3 ? NONE : 0);
        }
        Due.is("had of tomorrow", horn.had(now + 1, 0), NONE);
        Due.is("met on DAY " + now, horn.met(), now < 4 ? NONE : 4);
        int[] sooner = {0, 2, 2, 3};
        for (int what = 0; what <= 3; what++) {
            Due.is("sooner(" + what + ") on DAY " + now, horn.sooner(what), now < 3 ? NONE : sooner[what]);
        }
    }

    private static void asOfNow(int now) {
        HissHorn horn = told(now);
        int sum = now < 3 ? 30 : now < 7 ? 30 - 32 : 30 - 44;
        Due.is("sum on DAY " + now, horn.sum(0, 8, 0, 0, 0, 1), sum);
        Due.is("sum of another DAY on DAY " + now, horn.sum(120, 8, 0, 0, 0, 1), sum);
        Due.is("heard on DAY " + now, horn.heard(8, 0, 0, 0, 1, 0, 99L), sum);
        Due.is("narrows(0, 0) on DAY " + now, horn.narrows(0, 0), now < 5 ? HIDDEN : 10);
        Due.is("narrows(1, 0) on DAY " + now, horn.narrows(1, 0), now < 8 ? HIDDEN : 20);
        Due.is("nothing on DAY " + now, horn.nothing(), now < 8 ? 0 : 4);
        Due.is("leans(1, 1) on DAY " + now, horn.leans(1, 1), now < 4 ? HIDDEN : -80);
        int[] counts = {now, 2, 2, 5, now < 3 ? 1 : 2, now < 1 ? 0 : now < 4 ? 1 : now < 6 ? 2 : 3,
            now < 4 ? 2 : now < 7 ? 3 : 5, now < 5 ? 0 : now < 8 ? 1 : 3, now < 7 ? 0 : 1, 3,
            now < 1 ? 0 : now < 5 ? 1 : 2, now < 3 ? 0 : 1, now < 2 ? 0 : now < 4 ? 1 : 2, 0};
        for (int i = 0; i < counts.length; i++) {
            Due.is("count(" + i + ") on DAY " + now, horn.count(i), counts[i]);
        }
    }

    /** Asked from the last q to the first, each one behind the last one again. */
    private static void knownBackwards() {
        HissHorn horn = told(LAST);
        for (int q = LAST; q >= 0; q -= 2) {
            partsIn(horn, LAST, q);
            partsIn(horn, LAST, LAST);
        }
        HissHorn other = told(LAST);
        for (int q = LAST - 1; q >= 0; q -= 2) {
            Due.is(on(LAST, "fits", q), other.fits(0, q, 2), FITS_0[q][2]);
            Due.is("RULE 0 in between", other.say(0), SAID[0]);
            partsIn(other, LAST, q);
            Due.is("plan in between", other.plan(1, 4, 1), 12);
        }
    }

    /** On the last DAY READING 1 has 10 of PART 0 (60 .. 70) and 8 of PART 1 (50 .. 60, by -80) left open. */
    private static void looksInTheEnd() {
        HissHorn horn = told(LAST);
        int[][] plans = {{0, 0, 18}, {3, 0, 18}, {4, 8, 12}, {7, 8, 12}, {8, 24, 8}, {500, 24, 8}};
        for (int[] plan : plans) {
            Due.is("plan for " + plan[0], horn.plan(1, plan[0], 0), plan[1]);
            Due.is("how wide for " + plan[0], horn.plan(1, plan[0], 1), plan[2]);
            Due.is("judged", horn.judge(plan[1], 1), plan[2]);
        }
        Due.is("judge with one that was DONE", horn.judge(9, 1), -2);
        horn.done(3);
        horn.days(1);
        horn.done(4);
        Due.is("how wide as planned", horn.left(1, 9, 1) - horn.left(1, 9, 0), 8);
        Due.is("how wide as known on DAY 8", horn.left(1, 8, 1) - horn.left(1, 8, 0), 12);
        Due.is("narrows of LOOK 3", horn.narrows(3, 1), 6);
        Due.is("narrows of LOOK 4", horn.narrows(4, 1), 4);
        Due.is("narrows of LOOK 4, at d 0", horn.narrows(4, 0), 0);
        Due.is("nothing stays", horn.nothing(), 4);
        Due.is("no LOOK is left", horn.plan(1, 500, 0), 0);
        Due.is("nor for its width", horn.plan(1, 500, 1), 8);
        Due.is("RULES say what they said", horn.say(0), 7);
    }

    /** A PART of 100 by 100 + 10 e: 100, 110, 120, 130 are taken from 200, on both edges of each SEASON. */
    private static void seasons() {
        HissHorn horn = new HissHorn();
        Due.text(horn, 0, "y:100+10*e");
        Due.text(horn, 2, "y:g=0&n>1?n");
        horn.part(0, 100, 100, 100);
        int[] days = {0, 29, 30, 59, 60, 89, 90, 119, 120};
        int[] lefts = {100, 100, 90, 90, 80, 80, 70, 70, 100};
        int[] goes = {0, 0, 10, 10, 20, 20, 30, 30, 30};
        for (int i = 0; i < days.length; i++) {
            horn.days(i == 0 ? 0 : days[i] - days[i - 1]);
            Due.is("NOW", horn.count(0), days[i]);
            Due.is("heard on DAY " + days[i], horn.heard(i, 0, 0, 0, 1, 0, 5L), 200 - lefts[i]);
            Due.is("read", horn.read(i, 0, 0, 0, 1, 200), i);
        }
        for (int i = 0; i < days.length; i++) {
            Due.is("sum of DAY " + days[i], horn.sum(days[i], 0, 0, 0, 0, 1), 200 - lefts[i]);
            Due.is("leans of READING " + i, horn.leans(i, 0), 200 - lefts[i]);
            Due.is("left of READING " + i, horn.left(i, 120, 0), lefts[i]);
            Due.is("goes with e in " + days[i], horn.goes(days[i], 3), goes[i]);
            Due.is("goes with d in " + days[i], horn.goes(days[i], 0), goes[i]);
            Due.is("alike in " + days[i], horn.alike(days[i], 1), i < 2 ? 100 : HIDDEN);
        }
        Due.is("one side, of READINGS 0 and 8", horn.even(120, 1), 0);
        Due.is("none 8 apart on DAY 119", horn.even(119, 1), HIDDEN);
        Due.is("said of two READINGS", horn.say(0), 29);
    }

    /** What README.md tells of its example. */
    private static void readme() {
        HissHorn horn = new HissHorn();
        Due.is("feed", horn.feed(0x793A3130, 0x302B612A, 0x31300000, 0, 0), 10);
        Due.is("fault", horn.fault(0), -1);
        int law = horn.text(0);
        int part = horn.part(law, 10, 20, 15);
        int reading = horn.read(3, 2, 0, 0, 1, 100);
        Due.is("left from", horn.left(reading, 0, 0), 76);
        Due.is("left to", horn.left(reading, 0, 1), 88);
        int look = horn.look(part, 12, 15, 3);
        Due.is("plan", horn.plan(reading, 5, 0), 1);
        Due.is("plan's width", horn.plan(reading, 5, 1), 4);
        Due.is("days", horn.days(1), 1);
        Due.is("done", horn.done(look), true);
        Due.is("left from, in 1", horn.left(reading, 1, 0), 82);
        Due.is("left to, in 1", horn.left(reading, 1, 1), 86);
        Due.is("left to, in 0", horn.left(reading, 0, 1), 88);
        Due.is("could", horn.could(part, 1, 0), 84);
        Due.is("worth is refused", Due.worth(horn, 1, 0, 0, 0, 0, 0, 1), Integer.MIN_VALUE);
        Due.is("part is refused", horn.part(1, 0, 0, 0), -1);
    }
}
