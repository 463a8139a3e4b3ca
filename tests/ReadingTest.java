/** Promises 12 to 18 and 36: READINGS, LEFT, MOST, ALIKE, GOES WITH, COULD, SETS, EVEN. */
public final class ReadingTest {
    private static final int HIDDEN = HissHorn.HIDDEN;

    public static void main(String[] args) {
        readings();
        lefts();
        mosts();
        alikes();
        goesAndEven();
        coulds();
        sets();
        Due.end();
    }

    private static void readings() {
        HissHorn horn = new HissHorn();
        int[] greatest = {15, 9, 23, 9, 40, 100000};
        int[] least = {0, 0, 0, 0, 1, -100000};
        for (int i = 0; i < 6; i++) {
            int[] at = {0, 0, 0, 0, 1, 0};
            at[i] = greatest[i] + 1;
            Due.is("read above an edge", horn.read(at[0], at[1], at[2], at[3], at[4], at[5]), -1);
            at[i] = least[i] - 1;
            Due.is("read below an edge", horn.read(at[0], at[1], at[2], at[3], at[4], at[5]), -1);
        }
        Due.is("READINGS behind refused ones", horn.count(5), 0);
        Due.is("read at the upper edges", horn.read(15, 9, 23, 9, 40, 100000), 0);
        Due.is("read at the lower edges", horn.read(0, 0, 0, 0, 1, -100000), 1);
        for (int i = 2; i < 80; i++) {
            Due.is("read", horn.read(0, 0, 0, 0, 1, i), i);
        }
        Due.is("READING 80", horn.read(0, 0, 0, 0, 1, 0), -1);
        Due.is("READINGS", horn.count(5), 80);
    }

    private static void left(HissHorn horn, int reading, int q, int from, int to) {
        Due.is("left(" + reading + ", " + q + ", 0)", horn.left(reading, q, 0), from);
        Due.is("left(" + reading + ", " + q + ", 1)", horn.left(reading, q, 1), to);
    }

    private static void lefts() {
        HissHorn horn = new HissHorn();
        Due.text(horn, 0, "y:50");
        Due.text(horn, 0, "y:0-100");
        Due.text(horn, 0, "y:e*100");
        horn.part(0, 11, 21, 0);
        horn.read(0, 0, 0, 0, 1, 100);
        left(horn, 0, 0, 90, 95);
        horn.days(1);
        horn.part(1, 10, 30, 0);
        left(horn, 0, 1, 100, 125);
        left(horn, 0, 0, 90, 95);
        left(horn, 0, 2, HIDDEN, HIDDEN);
        left(horn, 0, -1, HIDDEN, HIDDEN);
        left(horn, 1, 1, HIDDEN, HIDDEN);
        left(horn, -1, 1, HIDDEN, HIDDEN);
        Due.is("left with what 2", horn.left(0, 1, 2), HIDDEN);
        Due.is("left with what -1", horn.left(0, 1, -1), HIDDEN);
        horn.read(0, 0, 0, 0, 1, 0);
        left(horn, 1, 0, HIDDEN, HIDDEN);
        left(horn, 1, 1, 0, 25);
        horn.days(40);
        horn.part(2, 1, 2, 0);
        horn.read(0, 0, 0, 0, 1, 0);
        left(horn, 2, 41, -2, 24);
        left(horn, 1, 41, 0, 25);
    }

    private static void mosts() {
        HissHorn horn = new HissHorn();
        Due.text(horn, 0, "y:100");
        Due.text(horn, 0, "y:0-200");
        Due.is("most of no READING", horn.most(0, 0), -1);
        horn.read(0, 0, 0, 0, 1, 0);
        Due.is("most without PARTS", horn.most(0, 0), -1);
        horn.part(0, 10, 10, 0);
        Due.is("most of a PART without width", horn.most(0, 0), 0);
        horn.days(1);
        horn.part(0, 10, 30, 0);
        horn.part(1, 10, 20, 0);
        Due.is("most of several", horn.most(0, 1), 1);
        Due.is("most as known earlier", horn.most(0, 0), 0);
        horn.part(1, 10, 21, 0);
        Due.is("most of a falling LAW", horn.most(0, 1), 3);
        Due.is("most in DAY 2", horn.most(0, 2), -1);
        Due.is("most in DAY -1", horn.most(0, -1), -1);
        Due.is("most of READING 1", horn.most(1, 1), -1);
        Due.is("most of READING -1", horn.most(-1, 1), -1);
    }

    private static void alike(HissHorn horn, int q, int from, int to) {
        Due.is("alike(" + q + ", 0)", horn.alike(q, 0), from);
        Due.is("alike(" + q + ", 1)", horn.alike(q, 1), to);
    }

    private static void alikes() {
        HissHorn horn = new HissHorn();
        Due.text(horn, 0, "y:100");
        horn.part(0, 0, 10, 0);
        alike(horn, 0, HIDDEN, HIDDEN);
        horn.days(1);
        horn.read(0, 0, 0, 0, 1, 20);
        alike(horn, 1, 10, 20);
        alike(horn, 0, HIDDEN, HIDDEN);
        horn.days(1);
        horn.read(0, 0, 0, 0, 1, 10);
        alike(horn, 2, 10, 10);
        alike(horn, 1, 10, 20);
        horn.read(0, 0, 0, 0, 1, 9);
        alike(horn, 2, HIDDEN, HIDDEN);
        alike(horn, 3, HIDDEN, HIDDEN);
        alike(horn, -1, HIDDEN, HIDDEN);
        Due.is("alike with what 2", horn.alike(1, 2), HIDDEN);
        Due.is("alike with what -1", horn.alike(1, -1), HIDDEN);
    }

    private static void goesAndEven() {
        HissHorn horn = new HissHorn();
        Due.is("goes without READINGS", horn.goes(0, 0), HIDDEN);
        Due.is("even without READINGS", horn.even(0, 0), HIDDEN);
        horn.read(1, 2, 3, 4, 5, 7);
        Due.is("goes with one value", horn.goes(0, 0), 0);
        Due.is("even of one direction", horn.even(0, 0), HIDDEN);
        horn.read(1, 2, 3, 5, 5, -10);
        Due.is("means cut towards 0: -3 / 2, and with itself 0", horn.goes(0, 0), 0);
        Due.is("goes with w", horn.goes(0, 4), 17);
        horn.read(4, 2, 4, 5, 6, 30);
        Due.is("goes with d", horn.goes(0, 0), 31);
        Due.is("goes with a", horn.goes(0, 1), 0);
        Due.is("goes with h", horn.goes(0, 2), 31);
        Due.is("goes with e", horn.goes(0, 3), 0);
        Due.is("goes with l", horn.goes(0, 5), 31);
        Due.is("even of two", horn.even(0, 0), 31);
        Due.is("one side of none 8 apart", horn.even(0, 1), HIDDEN);
        horn.days(30);
        horn.read(12, 2, 3, 4, 5, 100);
        Due.is("goes with e in two SEASONS", horn.goes(30, 3), 91);
        Due.is("even of three", horn.even(30, 0), 101);
        Due.is("one side", horn.even(30, 1), 70);
        Due.is("one side as known earlier", horn.even(29, 1), HIDDEN);
        Due.is("goes as known earlier", horn.goes(29, 0), 31);
        horn.read(9, 0, 0, 0, 1, -80);
        Due.is("one side of two pairs", horn.even(30, 1), 79);
        Due.is("goes with 6", horn.goes(30, 6), HIDDEN);
        Due.is("goes with -1", horn.goes(30, -1), HIDDEN);
        Due.is("goes in DAY 31", horn.goes(31, 0), HIDDEN);
        Due.is("goes in DAY -1", horn.goes(-1, 0), HIDDEN);
        Due.is("even with 2", horn.even(30, 2), HIDDEN);
        Due.is("even with -1", horn.even(30, -1), HIDDEN);
        Due.is("even in DAY 31", horn.even(31, 0), HIDDEN);
        HissHorn sides = new HissHorn();
        sides.read(8, 0, 0, 0, 1, 10);
        sides.read(8, 0, 0, 0, 1, 20);
        sides.read(7, 0, 0, 0, 1, 100);
        Due.is("one side of none 8 apart", sides.even(0, 1), HIDDEN);
        sides.read(0, 0, 0, 0, 1, -5);
        Due.is("one side of 0 and 8", sides.even(0, 1), 20);
        sides.read(15, 0, 0, 0, 1, 160);
        Due.is("one side of 7 and 15", sides.even(0, 1), 60);
        Due.is("even of four", sides.even(0, 0), 165);
        HissHorn wide = new HissHorn();
        Due.text(wide, 0, "y:100");
        wide.part(0, 0, 5, 0);
        wide.read(0, 0, 0, 0, 1, 0);
        wide.read(1, 0, 0, 0, 1, 5);
        Due.is("MIDDLES -5 / 2 and 5 / 2, cut towards 0", wide.goes(0, 0), 4);
    }

    private static void could(HissHorn horn, int part, int q, int least, int greatest) {
        Due.is("could(" + part + ", " + q + ", 0)", horn.could(part, q, 0), least);
        Due.is("could(" + part + ", " + q + ", 1)", horn.could(part, q, 1), greatest);
    }

    private static void coulds() {
        HissHorn horn = new HissHorn();
        Due.text(horn, 0, "y:50");
        Due.text(horn, 0, "y:0-100");
        horn.part(0, 10, 20, 0);
        could(horn, 0, 0, 0, 400);
        horn.days(1);
        horn.read(0, 0, 0, 0, 1, 30);
        could(horn, 0, 1, 60, 61);
        could(horn, 0, 0, 0, 400);
        horn.part(1, 10, 20, 0);
        could(horn, 0, 1, 80, 101);
        could(horn, 1, 1, -1, -1);
        could(horn, 1, 0, -1, -1);
        horn.days(1);
        horn.read(1, 0, 0, 0, 1, -20);
        could(horn, 0, 2, -1, -1);
        could(horn, 0, 1, 80, 101);
        could(horn, 2, 2, -1, -1);
        could(horn, -1, 2, -1, -1);
        could(horn, 0, 3, -1, -1);
        could(horn, 0, -1, -1, -1);
        Due.is("could with what 2", horn.could(0, 1, 2), -1);
        Due.is("could with what -1", horn.could(0, 1, -1), -1);
        HissHorn falling = new HissHorn();
        Due.text(falling, 0, "y:0-100");
        falling.part(0, 0, 0, 0);
        falling.read(0, 0, 0, 0, 1, -7);
        could(falling, 0, 0, 7, 7);
    }

    /** READINGS that are too low, and SPANS that are not 0 .. 0. */
    private static void setsBelow() {
        HissHorn horn = new HissHorn();
        Due.text(horn, 0, "y:100");
        Due.text(horn, 0, "y:0-100");
        Due.text(horn, 0, "y:d*100");
        horn.part(0, 100, 200, 0);
        horn.part(1, 50, 60, 0);
        horn.part(2, 10, 30, 0);
        horn.read(0, 0, 0, 0, 1, 40);
        Due.is("sets, at the lower end of all", horn.sets(0), 0);
        horn.read(0, 0, 0, 0, 1, 39);
        Due.is("sets of the lowest of two", horn.sets(0), 1);
        horn.read(0, 0, 0, 0, 1, -60);
        Due.is("sets of the lowest at its end", horn.sets(0), 1);
        horn.read(0, 0, 0, 0, 1, -61);
        Due.is("sets of the second", horn.sets(0), 2);
        horn.read(0, 0, 0, 0, 1, -300);
        Due.is("sets of the second at its end", horn.sets(0), 2);
        horn.read(0, 0, 0, 0, 1, -301);
        Due.is("sets of two", horn.sets(0), 3);
        horn.read(0, 0, 0, 0, 1, -401);
        Due.is("no sets", horn.sets(0), -1);
        HissHorn high = new HissHorn();
        Due.text(high, 0, "y:100");
        Due.text(high, 0, "y:200");
        high.part(0, 100, 200, 0);
        high.part(1, 300, 350, 0);
        high.read(0, 0, 0, 0, 1, 900);
        Due.is("sets, at the upper end of all", high.sets(0), 0);
        high.read(0, 0, 0, 0, 1, 1000);
        Due.is("sets, as much as one or the other", high.sets(0), 1);
        high.read(0, 0, 0, 0, 1, 1100);
        Due.is("sets of one at its end", high.sets(0), 1);
        high.read(0, 0, 0, 0, 1, 1101);
        Due.is("sets of both", high.sets(0), 3);
        high.read(0, 0, 0, 0, 1, 1200);
        Due.is("sets of both at their ends", high.sets(0), 3);
        high.read(0, 0, 0, 0, 1, 1201);
        Due.is("no sets so high", high.sets(0), -1);
    }

    private static void sets() {
        HissHorn horn = new HissHorn();
        Due.is("sets of nothing", horn.sets(0), 0);
        horn.read(0, 0, 0, 0, 1, 0);
        Due.is("sets, nothing being LEFT", horn.sets(0), 0);
        Due.text(horn, 0, "y:d=0?100;y:d=2?100");
        Due.text(horn, 0, "y:d=1?100;y:d=2?100");
        Due.text(horn, 0, "y:100");
        horn.days(1);
        horn.part(0, 0, 0, 0);
        horn.part(1, 0, 0, 0);
        horn.part(1, 0, 0, 0);
        horn.read(2, 0, 0, 0, 1, 400);
        Due.is("sets of one, the lowest", horn.sets(1), 1);
        horn.read(1, 0, 0, 0, 1, 400);
        Due.is("sets of one that two READINGS need", horn.sets(1), 2);
        horn.days(1);
        horn.read(2, 0, 0, 0, 1, 401);
        Due.is("sets of two", horn.sets(2), 3);
        Due.is("sets as known earlier", horn.sets(1), 2);
        Due.is("sets as known in DAY 0", horn.sets(0), 0);
        horn.read(3, 0, 0, 0, 1, 1);
        Due.is("no sets", horn.sets(2), -1);
        horn.days(1);
        horn.part(2, 0, 0, 0);
        Due.is("sets with one that shines everywhere", horn.sets(3), 9);
        Due.is("sets in DAY 4", horn.sets(4), -1);
        Due.is("sets in DAY -1", horn.sets(-1), -1);
        setsBelow();
        setsOfManyThenOfFew();
    }

    /** A q with one READING that lacks something, asked behind a q with three. */
    private static void setsOfManyThenOfFew() {
        HissHorn horn = new HissHorn();
        Due.text(horn, 0, "y:100");
        horn.part(0, 10, 10, 0);
        horn.read(0, 0, 0, 0, 1, 110);
        horn.days(1);
        horn.part(0, 0, 0, 0);
        horn.read(0, 0, 0, 0, 1, 405);
        horn.read(0, 0, 0, 0, 1, 510);
        Due.is("sets of many", horn.sets(1), 3);
        Due.is("sets of few behind it", horn.sets(0), 1);
        Due.is("sets of many again", horn.sets(1), 3);
    }
}
