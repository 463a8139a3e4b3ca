/** The sentences of the paragraphs "==== 2." to "==== 5." that name a bound, just within it and just beyond it. */
public final class BoundTest {
    private static final int NONE = HissHorn.NONE;
    private static final int HIDDEN = HissHorn.HIDDEN;

    public static void main(String[] args) {
        partsToldBehindQCountForNothing();
        ofSeveralMostTheLowest();
        drawsByASeed();
        fromTheGreatestLowerEnd();
        middlesCutTowardsZero();
        meansCut();
        goesWithEachLetter();
        onBothSidesOfZeroOrAtIt();
        theFewestParts();
        lookIsDoneOnce();
        narrowsAndForNothing();
        costsTogetherAreNoMore();
        ofSeveralPlans();
        rowInTheOrderOfNumbers();
        numberLeftOpen();
        nextOfSeveralWaves();
        hasItIfFromIsAboveZero();
        lettersTellTheDayAhead();
        aNumberInCommon();
        soonerOfSeveral();
        soonerByTwoLetters();
        soonerOrAtAll();
        evenAndOneSide();
        theFirstDayUpToNow();
        Due.end();
    }

    /** One LAW of 100 in a hundred. */
    private static HissHorn plain() {
        HissHorn horn = new HissHorn();
        Due.text(horn, 0, "y:100");
        return horn;
    }

    private static void left(HissHorn horn, int reading, int q, int from, int to) {
        Due.is("left(" + reading + ", " + q + ", 0)", horn.left(reading, q, 0), from);
        Due.is("left(" + reading + ", " + q + ", 1)", horn.left(reading, q, 1), to);
    }

    private static void partsToldBehindQCountForNothing() {
        HissHorn horn = plain();
        Due.text(horn, 0, "y:0-100");
        horn.read(0, 0, 0, 0, 1, 100000);
        horn.read(0, 0, 0, 0, 1, -100000);
        left(horn, 0, 0, 100000, 100000);
        horn.days(1);
        horn.part(0, 3, 7, 400);
        horn.days(1);
        horn.part(1, 0, 400, 0);
        left(horn, 0, 0, 100000, 100000);
        left(horn, 0, 1, 99993, 99997);
        left(horn, 0, 2, 99993, 100397);
        left(horn, 1, 2, -100007, -99603);
        left(horn, 1, 1, -100007, -100003);
        left(horn, 1, 0, -100000, -100000);
    }

    private static void ofSeveralMostTheLowest() {
        HissHorn horn = plain();
        horn.read(0, 0, 0, 0, 1, 0);
        Due.is("most without PARTS", horn.most(0, 0), NONE);
        Due.text(horn, 0, "y:0");
        Due.text(horn, 0, "y:0-100");
        horn.days(1);
        horn.part(1, 0, 400, 0);
        Due.is("most, all being 0 wide", horn.most(0, 1), 0);
        Due.is("most ahead of all PARTS", horn.most(0, 0), NONE);
        horn.part(0, 400, 400, 0);
        Due.is("most, two being 0 wide", horn.most(0, 1), 0);
        horn.part(0, 5, 15, 0);
        horn.part(2, 20, 30, 0);
        Due.is("most of two as wide", horn.most(0, 1), 2);
        horn.days(1);
        horn.part(2, 20, 31, 0);
        Due.is("most of one more", horn.most(0, 2), 4);
        Due.is("most ahead of it", horn.most(0, 1), 2);
    }

    private static void draw(long seed, int... due) {
        int[] noises = {0, 1, 10, 50};
        for (int i = 0; i < noises.length; i++) {
            int heard = new HissHorn().heard(0, 0, 0, 0, 1, noises[i], seed);
            Due.is("heard by seed " + seed + " and noise " + noises[i], heard, due[i]);
        }
    }

    /** 64 bits, going round. */
    private static void drawsByASeed() {
        draw(0, 0, 1, -8, -32);
        draw(1, 0, 1, -2, -40);
        draw(2, 0, 0, 3, -49);
        draw(-1, 0, 0, 9, 10);
        draw(7, 0, 1, 7, 44);
        draw(12345, 0, 0, 3, 31);
        draw(Long.MAX_VALUE, 0, -1, 8, -7);
        draw(Long.MIN_VALUE, 0, -1, -7, -15);
        HissHorn horn = plain();
        horn.part(0, 0, 0, 400);
        int least = 0;
        int greatest = 0;
        for (int seed = 0; seed < 400; seed++) {
            int draw = horn.heard(0, 0, 0, 0, 1, 50, seed) - 400;
            least = Math.min(least, draw);
            greatest = Math.max(greatest, draw);
        }
        Due.is("the least draw", least, -50);
        Due.is("the greatest draw", greatest, 50);
    }

    private static void alike(HissHorn horn, int from, int to) {
        Due.is("alike from", horn.alike(0, 0), from);
        Due.is("alike to", horn.alike(0, 1), to);
    }

    private static void fromTheGreatestLowerEnd() {
        HissHorn horn = plain();
        horn.part(0, 0, 10, 0);
        alike(horn, HIDDEN, HIDDEN);
        horn.read(0, 0, 0, 0, 1, 50);
        alike(horn, 40, 50);
        horn.read(0, 0, 0, 0, 1, 51);
        alike(horn, 41, 50);
        horn.read(0, 0, 0, 0, 1, 60);
        alike(horn, 50, 50);
        horn.read(0, 0, 0, 0, 1, 61);
        alike(horn, HIDDEN, HIDDEN);
        HissHorn zero = plain();
        zero.read(0, 0, 0, 0, 1, 0);
        alike(zero, 0, 0);
        zero.read(0, 0, 0, 0, 1, -1);
        alike(zero, HIDDEN, HIDDEN);
    }

    /** How far the MIDDLE of a READING that is LEFT number - 5 .. number is from 1000. */
    private static void middle(int number, int want) {
        HissHorn horn = plain();
        Due.text(horn, 0, "y:d=1?100");
        horn.part(1, 0, 5, 0);
        horn.read(0, 0, 0, 0, 1, 1000);
        horn.read(1, 0, 0, 0, 1, number);
        Due.is("MIDDLE of LEFT up to " + number, 1000 - horn.goes(0, 0), want);
    }

    private static void middlesCutTowardsZero() {
        middle(0, -2);
        middle(1, -1);
        middle(2, 0);
        middle(3, 0);
        middle(4, 1);
        middle(5, 2);
        middle(-1, -3);
    }

    /** How far the mean of READINGS is from 1000. */
    private static void mean(int want, int... numbers) {
        HissHorn horn = new HissHorn();
        horn.read(8, 0, 0, 0, 1, 1000);
        for (int number : numbers) horn.read(0, 0, 0, 0, 1, number);
        Due.is("mean by GOES WITH d", 1000 - horn.goes(0, 0), want);
        Due.is("mean by EVEN", 1000 - horn.even(0, 0), want);
        Due.is("mean by ONE SIDE", 1000 - horn.even(0, 1), want);
    }

    private static void meansCut() {
        mean(0, 0, 1);
        mean(1, 1, 2);
        mean(0, 0, -1);
        mean(-1, -1, -2);
        mean(0, -1, 0, 0);
        mean(0, -2, 0, 0);
        mean(-1, -3, 0, 0);
        mean(100, 100, 100, 100);
        mean(2, 1, 2, 3, 5);
    }

    private static void goesWithEachLetter() {
        int[][] edges = {{0, 15}, {0, 9}, {0, 23}, {0, 9}, {1, 40}};
        int[] letter = {0, 1, 2, 4, 5};
        for (int i = 0; i < 5; i++) {
            HissHorn horn = new HissHorn();
            Integer[] aim = {3, 3, 3, 3, 3, 0};
            for (int j = 0; j < 2; j++) {
                aim[i] = edges[i][j];
                aim[5] = j == 0 ? -10 : 10;
                new Call("read", (Object[]) aim.clone()).of(horn);
            }
            for (int what = 0; what <= 5; what++) {
                Due.is("goes with " + what + " where " + letter[i] + " goes", horn.goes(0, what),
                    what == letter[i] ? 20 : 0);
            }
        }
        HissHorn seasons = new HissHorn();
        seasons.read(3, 3, 3, 3, 3, 5);
        for (int i = 1; i <= 4; i++) {
            seasons.days(30);
            seasons.read(3, 3, 3, 3, 3, 5 + i * 10);
        }
        Due.is("goes with e on DAY 0", seasons.goes(0, 3), 0);
        Due.is("goes with e on DAY 90", seasons.goes(90, 3), 30);
        Due.is("goes with e, going round", seasons.goes(120, 3), 35 - 15);
    }

    private static void could(String law, int from, int to, int number, int least, int greatest) {
        HissHorn horn = plain();
        Due.text(horn, 0, law);
        horn.part(1, 7, 9, 0);
        horn.part(0, from, to, 0);
        horn.read(0, 0, 0, 0, 1, number);
        Due.is("could by " + law + " of " + number + ", least", horn.could(0, 0, 0), least);
        Due.is("could by " + law + " of " + number + ", greatest", horn.could(0, 0, 1), greatest);
    }

    private static void onBothSidesOfZeroOrAtIt() {
        could("y:100", 10, 20, 9, NONE, NONE);
        could("y:100", 10, 20, 10, 0, 0);
        could("y:100", 10, 20, 11, 0, 1);
        could("y:100", 10, 20, 20, 0, 10);
        could("y:100", 10, 20, 21, 1, 11);
        could("y:100", 10, 20, 410, 390, 400);
        could("y:100", 10, 20, 419, 399, 400);
        could("y:100", 10, 20, 420, 400, 400);
        could("y:100", 10, 20, 421, NONE, NONE);
        could("y:0-100", 10, 20, 21, NONE, NONE);
        could("y:0-100", 10, 20, 20, 0, 0);
        could("y:0-100", 10, 20, -380, 390, 400);
        could("y:0-100", 10, 20, -390, 400, 400);
        could("y:0-100", 10, 20, -391, NONE, NONE);
        could("y:50", 0, 0, 1, 2, 3);
        could("y:0", 0, 0, 0, 0, 400);
        could("y:0", 0, 0, 1, NONE, NONE);
        HissHorn horn = plain();
        horn.part(0, 0, 0, 0);
        Due.is("could without READINGS, least", horn.could(0, 0, 0), 0);
        Due.is("could without READINGS, greatest", horn.could(0, 0, 1), 400);
        horn.read(0, 0, 0, 0, 1, 30);
        horn.read(0, 0, 0, 0, 1, 31);
        Due.is("could of two READINGS", horn.could(0, 0, 0), NONE);
    }

    /** Two PARTS of 10 .. 20 and one READING. */
    private static void sets(int number, int want) {
        HissHorn horn = plain();
        horn.part(0, 10, 20, 0);
        horn.part(0, 10, 20, 0);
        horn.read(0, 0, 0, 0, 1, number);
        Due.is("sets of " + number, horn.sets(0), want);
    }

    /** One PART of 10 .. 20 by a LAW below 0, and one READING. */
    private static void fallingSets(int number, int want) {
        HissHorn horn = new HissHorn();
        Due.text(horn, 0, "y:0-100");
        horn.part(0, 10, 20, 0);
        horn.read(0, 0, 0, 0, 1, number);
        Due.is("falling sets of " + number, horn.sets(0), want);
    }

    private static void theFewestParts() {
        Due.is("sets of nothing", new HissHorn().sets(0), 0);
        sets(-1, NONE);
        sets(0, 3);
        sets(9, 3);
        sets(10, 1);
        sets(19, 1);
        sets(20, 0);
        sets(40, 0);
        sets(41, 1);
        sets(420, 1);
        sets(421, 3);
        sets(800, 3);
        sets(801, NONE);
        HissHorn none = new HissHorn();
        none.read(0, 0, 0, 0, 1, 1);
        Due.is("sets without PARTS", none.sets(0), NONE);
        fallingSets(1, NONE);
        fallingSets(0, 1);
        fallingSets(-9, 1);
        fallingSets(-10, 0);
        fallingSets(-20, 0);
        fallingSets(-21, 1);
        fallingSets(-400, 1);
        fallingSets(-401, NONE);
        HissHorn many = new HissHorn();
        Due.text(many, 0, "y:d<4?100");
        Due.text(many, 0, "y:d>2&d<6?100");
        Due.text(many, 0, "y:d>4?100");
        for (int i = 0; i < 12; i++) many.part(i / 4, 0, 0, 0);
        many.read(2, 0, 0, 0, 1, 400);
        many.read(6, 0, 0, 0, 1, 400);
        Due.is("sets of the lowest of each", many.sets(0), 1 | 1 << 8);
        many.read(4, 0, 0, 0, 1, 400);
        Due.is("sets of three", many.sets(0), 1 | 1 << 4 | 1 << 8);
        many.read(5, 0, 0, 0, 1, 1200);
        Due.is("of several that with the lower PART", many.sets(0), 1 | 1 << 4 | 1 << 5 | 1 << 8);
        many.read(3, 0, 0, 0, 1, 3200);
        Due.is("sets of nearly all", many.sets(0), 0x1FF);
        many.read(6, 0, 0, 0, 1, 1600);
        Due.is("sets of all twelve", many.sets(0), 0xFFF);
        many.read(6, 0, 0, 0, 1, 1601);
        Due.is("one too many", many.sets(0), NONE);
    }

    private static void lookIsDoneOnce() {
        HissHorn horn = plain();
        horn.part(0, 0, 400, 0);
        horn.look(0, 0, 100, 1);
        Due.is("done", horn.done(0), true);
        horn.clean(0, 0, 400, 0);
        Due.is("done again", horn.done(0), false);
        Due.is("the SPAN stays", horn.span(0, 0, 1), 400);
        horn.days(1);
        Due.is("done on another DAY", horn.done(0), false);
        Due.is("LOOKS DONE", horn.count(7), 1);
        Due.is("a LOOK alike", horn.look(0, 0, 100, 1), 1);
        Due.is("is DONE", horn.done(1), true);
        Due.is("and cuts", horn.span(0, 1, 1), 100);
    }

    private static void narrows(int from, int to, int want, int nothing) {
        HissHorn horn = plain();
        horn.part(0, 100, 200, 0);
        horn.read(0, 0, 0, 0, 1, 0);
        horn.look(0, from, to, 1);
        horn.done(0);
        Due.is("narrows by " + from + " .. " + to, horn.narrows(0, 0), want);
        Due.is("nothing by " + from + " .. " + to, horn.nothing(), nothing);
        horn.days(1);
        horn.clean(0, 0, 400, 0);
        Due.is("narrows behind a CLEANING", horn.narrows(0, 0), want);
        Due.is("nothing behind a CLEANING", horn.nothing(), nothing);
    }

    private static void narrowsAndForNothing() {
        narrows(100, 200, 0, 1);
        narrows(0, 400, 0, 1);
        narrows(101, 200, 1, 0);
        narrows(100, 199, 1, 0);
        narrows(150, 150, 100, 0);
        narrows(200, 400, 100, 0);
        narrows(201, 400, 100 - 199, 0);
        narrows(201, 301, 0, 0);
        narrows(0, 99, 1, 0);
        HissHorn ten = plain();
        ten.part(0, 5, 6, 0);
        for (int i = 0; i < 10; i++) {
            ten.look(0, 0, 400, 50);
            ten.done(i);
        }
        Due.is("ten LOOKS FOR NOTHING", ten.nothing(), 1023);
    }

    private static void plan(HissHorn horn, int coin, int bits, int width) {
        Due.is("plan for " + coin, horn.plan(0, coin, 0), bits);
        Due.is("how wide for " + coin, horn.plan(0, coin, 1), width);
    }

    private static void costsTogetherAreNoMore() {
        HissHorn horn = plain();
        for (int i = 0; i < 10; i++) {
            horn.part(0, 0, 100, 0);
            horn.look(i, 0, 90, 50);
        }
        horn.read(0, 0, 0, 0, 1, 0);
        plan(horn, 0, 0, 1000);
        plan(horn, 49, 0, 1000);
        plan(horn, 50, 1, 990);
        plan(horn, 99, 1, 990);
        plan(horn, 100, 3, 980);
        plan(horn, 499, 511, 910);
        plan(horn, 500, 1023, 900);
        plan(horn, 501, NONE, NONE);
        plan(horn, -1, NONE, NONE);
        horn.done(0);
        plan(horn, 49, 0, 990);
        plan(horn, 50, 2, 980);
        plan(horn, 500, 1022, 900);
        HissHorn cheap = plain();
        cheap.part(0, 0, 100, 0);
        cheap.look(0, 0, 90, 1);
        cheap.read(0, 0, 0, 0, 1, 0);
        plan(cheap, 0, 0, 100);
        plan(cheap, 1, 1, 90);
    }

    /** The cheapest; then that with the lower LOOK where two first differ. */
    private static void ofSeveralPlans() {
        HissHorn horn = plain();
        horn.part(0, 0, 100, 0);
        horn.part(0, 0, 100, 0);
        horn.read(0, 0, 0, 0, 1, 0);
        horn.look(0, 0, 50, 3);
        horn.look(1, 0, 50, 2);
        horn.look(0, 0, 50, 2);
        horn.look(1, 0, 50, 3);
        plan(horn, 2, 2, 150);
        plan(horn, 3, 2, 150);
        plan(horn, 4, 6, 100);
        plan(horn, 5, 6, 100);
        plan(horn, 500, 6, 100);
        HissHorn alike = plain();
        for (int i = 0; i < 4; i++) alike.part(0, 0, 100, 0);
        alike.read(0, 0, 0, 0, 1, 0);
        alike.look(0, 0, 60, 2);
        alike.look(1, 0, 50, 2);
        alike.look(2, 0, 50, 2);
        alike.look(3, 0, 40, 2);
        plan(alike, 2, 8, 340);
        plan(alike, 4, 10, 290);
        plan(alike, 6, 14, 240);
        alike.done(3);
        plan(alike, 2, 2, 290);
        plan(alike, 4, 6, 240);
        HissHorn pairs = plain();
        for (int i = 0; i < 4; i++) pairs.part(0, 0, 100, 0);
        pairs.read(0, 0, 0, 0, 1, 0);
        pairs.look(0, 0, 70, 2);
        pairs.look(1, 0, 60, 1);
        pairs.look(2, 0, 60, 2);
        pairs.look(3, 0, 70, 1);
        plan(pairs, 3, 6, 320);
        plan(pairs, 2, 10, 330);
        HissHorn first = plain();
        for (int i = 0; i < 4; i++) first.part(0, 0, 100, 0);
        first.read(0, 0, 0, 0, 1, 0);
        first.look(0, 0, 70, 2);
        first.look(1, 0, 60, 2);
        first.look(2, 0, 60, 2);
        first.look(3, 0, 50, 2);
        plan(first, 4, 10, 310);
        first.done(1);
        plan(first, 4, 12, 270);
        HissHorn idle = plain();
        idle.part(0, 10, 20, 0);
        idle.read(0, 0, 0, 0, 1, 0);
        idle.look(0, 0, 400, 1);
        idle.look(0, 50, 90, 1);
        plan(idle, 500, 0, 10);
    }

    private static void rowInTheOrderOfNumbers() {
        HissHorn horn = plain();
        horn.part(0, 100, 200, 0);
        horn.read(0, 0, 0, 0, 1, 0);
        horn.look(0, 250, 400, 1);
        horn.look(0, 150, 300, 1);
        Due.is("the empty ROW", horn.judge(0, 0), 100);
        Due.is("LOOK 0", horn.judge(1, 0), 150);
        Due.is("LOOK 1", horn.judge(2, 0), 50);
        Due.is("LOOK 0 ahead of LOOK 1", horn.judge(3, 0), 50);
        horn.look(0, 0, 160, 1);
        Due.is("LOOK 1 ahead of LOOK 2", horn.judge(6, 0), 10);
        Due.is("all three", horn.judge(7, 0), 160);
        Due.is("nothing is DONE by that", horn.span(0, 0, 1), 200);
        Due.is("no LOOKS DONE", horn.count(7), 0);
        plan(horn, 3, 6, 10);
        horn.done(2);
        Due.is("LOOK 2 was DONE", horn.judge(4, 0), -2);
        Due.is("LOOK 1 behind it", horn.judge(2, 0), 10);
    }

    private static void fit(int number, int width, int least, int greatest, int many) {
        HissHorn horn = plain();
        Due.text(horn, 1, "y:a");
        horn.part(0, 0, width, 0);
        horn.read(0, 0, 0, 0, 40, number);
        Due.is("least fit of " + number, horn.fits(0, 0, 0), least);
        Due.is("greatest fit of " + number, horn.fits(0, 0, 1), greatest);
        Due.is("how many fits of " + number, horn.fits(0, 0, 2), many);
    }

    private static void numberLeftOpen() {
        fit(-1, 0, NONE, NONE, 0);
        fit(0, 0, 0, 0, 1);
        fit(60, 0, 60, 60, 1);
        fit(61, 0, NONE, NONE, 0);
        fit(61, 1, 60, 60, 1);
        fit(0, 10, 0, 0, 1);
        fit(30, 10, 20, 30, 11);
        fit(60, 60, 0, 60, 61);
        fit(61, 60, 1, 60, 60);
        fit(59, 59, 0, 59, 60);
        HissHorn horn = plain();
        Due.text(horn, 1, "y:a*l");
        Due.text(horn, 1, "y:a=7?0;y:a=9?0;y:1");
        Due.is("fits without READINGS", horn.fits(0, 0, 2), 61);
        horn.read(0, 0, 0, 0, 1, 0);
        Due.is("fits with a gap, least", horn.fits(1, 0, 0), 7);
        Due.is("fits with a gap, greatest", horn.fits(1, 0, 1), 9);
        Due.is("fits with a gap, how many", horn.fits(1, 0, 2), 2);
        Due.is("fits by the wave", horn.fits(0, 0, 2), 1);
    }

    private static void next(String one, String other, int wave, int apart) {
        HissHorn horn = new HissHorn();
        Due.text(horn, 1, one);
        Due.text(horn, 1, other);
        Due.is("next of " + one + " and " + other, horn.next(0, 1, 0, 0), wave);
        Due.is("how far apart", horn.next(0, 1, 0, 1), apart);
        Due.is("the other way", horn.next(1, 0, 0, 0), wave);
        Due.is("as far apart", horn.next(1, 0, 0, 1), apart);
    }

    private static void nextOfSeveralWaves() {
        next("y:1", "y:1", 1, 0);
        next("y:5", "y:l", 40, 35);
        next("y:40", "y:l", 1, 39);
        next("y:20", "y:l", 40, 20);
        next("y:21", "y:l", 1, 20);
        next("y:l>38?1;y:0", "y:a", 39, 1);
        next("y:l=40?1", "y:a", 40, 1);
        next("y:l=1?1", "y:a", 1, 1);
        HissHorn horn = plain();
        Due.text(horn, 1, "y:a");
        Due.text(horn, 1, "y:a*2-l");
        horn.part(0, 0, 10, 0);
        horn.read(0, 0, 0, 0, 10, 30);
        Due.is("by the least FIT of each", horn.next(0, 1, 0, 1), 30);
        Due.is("at wave 40", horn.next(0, 1, 0, 0), 40);
        horn.read(0, 0, 0, 0, 10, 41);
        Due.is("one has no FITS", horn.next(0, 1, 0, 0), NONE);
    }

    private static void had(int from, int to, int has, int could) {
        HissHorn horn = new HissHorn();
        horn.house();
        horn.print(0, true, from, to);
        Due.is("FORETOLD ones are no PRINTS", horn.had(0, 0) + horn.had(0, 1), 0);
        horn.print(0, false, from, to);
        Due.is("has it, " + from + " .. " + to, horn.had(0, 0), has);
        Due.is("could have had it, " + from + " .. " + to, horn.had(0, 1), could);
    }

    private static void hasItIfFromIsAboveZero() {
        had(-400, -400, 0, 0);
        had(-1, -1, 0, 0);
        had(-1, 0, 0, 0);
        had(0, 0, 0, 0);
        had(-1, 1, 0, 1);
        had(0, 1, 0, 1);
        had(-400, 400, 0, 1);
        had(1, 1, 1, 0);
        had(1, 400, 1, 0);
        had(400, 400, 1, 0);
    }

    private static HissHorn houses(int many) {
        HissHorn horn = new HissHorn();
        for (int i = 0; i < many; i++) horn.house();
        return horn;
    }

    private static void lettersTellTheDayAhead() {
        HissHorn horn = houses(8);
        horn.letter(7, 0);
        horn.print(7, false, 1, 1);
        horn.print(7, true, 9, 9);
        horn.letter(7, 0);
        Due.is("a LETTER of that DAY", horn.knows(0, false, 0, 0), 0);
        horn.days(1);
        Due.is("no LETTER since", horn.knows(0, false, 0, 1), 0);
        horn.letter(7, 0);
        horn.letter(0, 1);
        horn.print(7, true, 8, 8);
        Due.is("a LETTER of the DAY behind", horn.knows(0, false, 0, 1), 1);
        Due.is("and the FORETOLD one", horn.knows(0, true, 0, 1), 1);
        Due.is("not what is told that DAY", horn.knows(0, true, 1, 1), 0);
        Due.is("its own that DAY", horn.knows(7, true, 1, 1), 1);
        Due.is("not ahead of it", horn.knows(7, true, 1, 0), 0);
        Due.is("a LETTER passes nothing on that came that DAY", horn.knows(1, false, 0, 1), 0);
        Due.is("what was known ahead", horn.knows(0, false, 0, 0), 0);
        horn.days(60);
        horn.days(59);
        horn.letter(0, 1);
        horn.letter(1, 2);
        Due.is("on the last DAY", horn.knows(1, false, 0, 120), 1);
        Due.is("not ahead of the last DAY", horn.knows(1, false, 0, 119), 0);
        Due.is("not two in one DAY", horn.knows(2, false, 0, 120), 0);
        HissHorn full = houses(8);
        for (int i = 0; i < 40; i++) full.print(0, false, -1, 0);
        for (int i = 0; i < 20; i++) full.print(0, true, -1, 0);
        full.days(1);
        full.letter(0, 7);
        Due.is("the last PRINT", full.knows(7, false, 39, 1), 1);
        Due.is("the last FORETOLD one", full.knows(7, true, 19, 1), 1);
        Due.is("not yet", full.knows(7, true, 19, 0), 0);
        Due.is("not to another HOUSE", full.knows(6, true, 0, 1), 0);
    }

    private static void met(int from, int to, int foretoldFrom, int foretoldTo, int want) {
        HissHorn horn = houses(1);
        horn.print(0, false, from, to);
        horn.print(0, true, foretoldFrom, foretoldTo);
        Due.is(from + " .. " + to + " and " + foretoldFrom + " .. " + foretoldTo, horn.met(), want);
        HissHorn turned = houses(1);
        turned.days(3);
        turned.print(0, true, foretoldFrom, foretoldTo);
        turned.days(2);
        turned.print(0, false, from, to);
        Due.is("the FORETOLD one ahead of it", turned.met(), want == 0 ? 5 : NONE);
    }

    private static void aNumberInCommon() {
        met(5, 9, 9, 12, 0);
        met(5, 9, 10, 12, NONE);
        met(5, 9, 1, 5, 0);
        met(5, 9, 1, 4, NONE);
        met(5, 9, 7, 7, 0);
        met(7, 7, 5, 9, 0);
        met(1, 1, -400, 400, 0);
        met(1, 400, 400, 400, 0);
        met(0, 400, 1, 400, NONE);
        met(-5, 5, -5, 5, NONE);
        met(1, 5, -5, 0, NONE);
        met(1, 5, -5, 1, 0);
    }

    private static void sooner(HissHorn horn, int from, int to, int day, int met) {
        int[] due = {from, to, day, met};
        for (int what = 0; what <= 3; what++) Due.is("sooner(" + what + ")", horn.sooner(what), due[what]);
    }

    /** The earliest DAY, then the lower HOUSE from, then to. */
    private static void soonerOfSeveral() {
        HissHorn days = houses(3);
        days.print(0, false, 1, 1);
        days.days(4);
        days.print(1, true, 1, 1);
        days.days(4);
        sooner(days, 0, 1, 1, 4);
        HissHorn from = houses(3);
        from.print(1, false, 1, 1);
        from.print(2, true, 1, 1);
        from.days(1);
        sooner(from, 1, 2, 1, 1);
        HissHorn to = houses(4);
        to.print(1, false, 1, 1);
        to.print(2, true, 1, 1);
        to.print(0, true, 1, 1);
        to.days(1);
        sooner(to, 0, 1, 1, 1);
        HissHorn lower = houses(4);
        lower.print(0, false, 1, 1);
        lower.print(3, true, 1, 1);
        lower.print(2, true, 1, 1);
        lower.days(1);
        sooner(lower, 0, 2, 1, 1);
        HissHorn last = houses(8);
        last.print(7, false, 1, 1);
        last.days(60);
        last.days(60);
        last.print(6, true, 1, 1);
        sooner(last, 7, 6, 1, 120);
    }

    /** A LETTER that another one passes on, which was sent on the DAY behind it or later. */
    private static void soonerByTwoLetters() {
        HissHorn first = houses(2);
        first.print(1, false, 1, 1);
        first.days(4);
        first.print(0, true, 1, 1);
        sooner(first, 1, 0, 1, 4);
        HissHorn passed = houses(3);
        passed.days(1);
        passed.print(1, false, 1, 1);
        passed.days(3);
        passed.letter(0, 2);
        passed.days(1);
        passed.print(2, true, 1, 1);
        sooner(passed, 1, 0, 2, 5);
        HissHorn same = houses(3);
        same.days(1);
        same.print(0, false, 1, 1);
        same.days(3);
        same.letter(1, 2);
        same.print(2, true, 1, 1);
        same.days(2);
        sooner(same, 0, 1, 2, 4);
        HissHorn all = houses(3);
        all.days(1);
        all.print(0, false, 1, 1);
        all.days(3);
        for (int i = 0; i < 60; i++) Due.is("letter " + i, all.letter(1, 2), true);
        all.print(2, true, 1, 1);
        sooner(all, 0, 1, 2, 4);
        HissHorn behind = houses(3);
        behind.days(1);
        behind.print(0, false, 1, 1);
        behind.days(1);
        behind.letter(1, 2);
        behind.days(1);
        behind.print(2, true, 1, 1);
        sooner(behind, 0, 2, 2, 3);
        HissHorn next = houses(3);
        next.days(1);
        next.print(0, false, 1, 1);
        next.days(2);
        next.letter(1, 2);
        next.days(1);
        next.print(2, true, 1, 1);
        sooner(next, 0, 1, 2, 4);
    }

    private static void soonerOrAtAll() {
        HissHorn none = houses(2);
        none.print(0, false, 1, 1);
        none.days(5);
        sooner(none, NONE, NONE, NONE, NONE);
        none.print(1, true, 1, 1);
        sooner(none, 0, 1, 1, 5);
        none.days(1);
        none.letter(0, 1);
        Due.is("met by a LETTER", none.met(), 6);
        sooner(none, 0, 1, 1, 5);
        HissHorn best = houses(2);
        best.print(0, false, 1, 1);
        best.print(1, true, 1, 1);
        sooner(best, NONE, NONE, NONE, NONE);
        best.days(1);
        sooner(best, 0, 1, 1, 1);
        best.letter(0, 1);
        Due.is("met as soon as can be", best.met(), 1);
        sooner(best, NONE, NONE, NONE, NONE);
        HissHorn own = houses(2);
        own.print(0, false, 1, 1);
        own.print(0, true, 1, 1);
        own.days(3);
        sooner(own, NONE, NONE, NONE, NONE);
        HissHorn later = houses(3);
        later.print(0, false, 1, 1);
        later.print(1, true, 1, 1);
        later.days(2);
        later.letter(1, 2);
        later.days(1);
        later.letter(2, 0);
        Due.is("met by two LETTERS", later.met(), 3);
        sooner(later, 0, 1, 1, 1);
    }

    private static void evenAndOneSide() {
        HissHorn horn = new HissHorn();
        horn.read(0, 0, 0, 0, 1, 7);
        Due.is("even of one direction", horn.even(0, 0), HIDDEN);
        Due.is("one side of one direction", horn.even(0, 1), HIDDEN);
        horn.read(7, 0, 0, 0, 1, 7);
        Due.is("even of two", horn.even(0, 0), 0);
        Due.is("one side of two that are 7 apart", horn.even(0, 1), HIDDEN);
        horn.read(9, 0, 0, 0, 1, 0);
        Due.is("one side of two that are 9 apart", horn.even(0, 1), HIDDEN);
        horn.read(15, 0, 0, 0, 1, -9);
        Due.is("even of four", horn.even(0, 0), 16);
        Due.is("one side of 7 and 15", horn.even(0, 1), 16);
        horn.read(8, 0, 0, 0, 1, 30);
        Due.is("one side of 0 and 8", horn.even(0, 1), 23);
        Due.is("even of five", horn.even(0, 0), 39);
    }

    private static void said(HissHorn horn, String rule, int want) {
        Due.is(rule, horn.say(Due.text(horn, 2, rule)), want);
    }

    private static void theFirstDayUpToNow() {
        HissHorn horn = plain();
        said(horn, "y:1", 0);
        said(horn, "y:0", NONE);
        said(horn, "y:t", NONE);
        said(horn, "y:n+g+b+k", NONE);
        horn.days(1);
        Due.is("t on DAY 1", horn.say(2), 1);
        horn.read(0, 0, 0, 0, 1, -3);
        Due.is("b below 0", horn.say(3), 1);
        horn.days(60);
        horn.days(59);
        said(horn, "y:t=120?0-1", 120);
        said(horn, "y:t>120?1", NONE);
        HissHorn wide = plain();
        wide.part(0, 0, 400, 0);
        wide.days(2);
        wide.read(0, 0, 0, 0, 1, 100);
        wide.read(0, 0, 0, 0, 1, 500);
        wide.days(2);
        wide.look(0, 0, 399, 1);
        wide.done(0);
        wide.days(2);
        said(wide, "y:n=2&g=0&b=100?1", 2);
        said(wide, "y:t>2&g=0&b=0?1", 4);
        said(wide, "y:b", 2);
        said(wide, "y:n=2&k=1?1", 4);
        said(wide, "y:t>4&k=1?1", 5);
        said(wide, "y:t>5&k=1&n=2?0;y:0", NONE);
        Due.is("RULES", wide.count(3), 6);
    }
}
