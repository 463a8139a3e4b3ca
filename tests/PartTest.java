/** Promises 8 to 11: PARTS, their SPANS, TRUE SUM and HEARD. */
public final class PartTest {
    private static final int HIDDEN = HissHorn.HIDDEN;

    public static void main(String[] args) {
        parts();
        spans();
        sums();
        draws();
        Due.end();
    }

    private static void parts() {
        HissHorn horn = new HissHorn();
        Due.is("part of no LAW", horn.part(0, 0, 0, 0), -1);
        Due.text(horn, 0, "y:100");
        Due.is("part of LAW -1", horn.part(-1, 0, 0, 0), -1);
        Due.is("part from below 0", horn.part(0, -1, 0, 0), -1);
        Due.is("part to above 400", horn.part(0, 0, 401, 0), -1);
        Due.is("part to below from", horn.part(0, 5, 4, 5), -1);
        Due.is("part truly below 0", horn.part(0, 0, 0, -1), -1);
        Due.is("part truly above 400", horn.part(0, 0, 0, 401), -1);
        Due.is("PARTS behind refused ones", horn.count(4), 0);
        Due.is("part at its edges, truly outside", horn.part(0, 0, 0, 400), 0);
        Due.is("part at its other edges", horn.part(0, 400, 400, 0), 1);
        for (int i = 2; i < 12; i++) {
            Due.is("part", horn.part(0, 0, 400, 1), i);
        }
        Due.is("a thirteenth part", horn.part(0, 0, 400, 1), -1);
        Due.is("PARTS", horn.count(4), 12);
    }

    private static void span(HissHorn horn, int part, int q, int from, int to) {
        Due.is("span(" + part + ", " + q + ", 0)", horn.span(part, q, 0), from);
        Due.is("span(" + part + ", " + q + ", 1)", horn.span(part, q, 1), to);
    }

    private static void spans() {
        HissHorn horn = new HissHorn();
        Due.text(horn, 0, "y:100");
        horn.days(2);
        horn.part(0, 10, 50, 20);
        span(horn, 0, 2, 10, 50);
        span(horn, 0, 1, -1, -1);
        span(horn, 0, 3, -1, -1);
        span(horn, 0, -1, -1, -1);
        span(horn, 1, 2, -1, -1);
        span(horn, -1, 2, -1, -1);
        Due.is("span with what -1", horn.span(0, 2, -1), -1);
        Due.is("span with what 2", horn.span(0, 2, 2), -1);
        horn.look(0, 30, 400, 1);
        horn.look(0, 0, 30, 1);
        horn.look(0, 31, 40, 1);
        horn.look(0, 0, 400, 1);
        horn.days(1);
        horn.done(0);
        span(horn, 0, 3, 30, 50);
        horn.done(1);
        span(horn, 0, 3, 30, 30);
        span(horn, 0, 2, 10, 50);
        horn.days(1);
        horn.done(2);
        span(horn, 0, 4, 31, 40);
        horn.clean(0, 100, 200, 7);
        span(horn, 0, 4, 100, 200);
        horn.done(3);
        span(horn, 0, 4, 100, 200);
        span(horn, 0, 3, 30, 30);
    }

    private static void sums() {
        HissHorn horn = new HissHorn();
        Due.is("sum without PARTS", horn.sum(0, 0, 0, 0, 0, 1), 0);
        Due.text(horn, 0, "y:e*100+d");
        Due.text(horn, 0, "y:0-l");
        horn.part(0, 0, 0, 10);
        horn.part(1, 0, 0, 101);
        horn.part(0, 0, 0, 1);
        Due.is("sum, each PART cut towards 0", horn.sum(0, 15, 0, 0, 0, 3), 1 - 3);
        Due.is("sum on DAY 29", horn.sum(29, 0, 0, 0, 0, 1), -1);
        Due.is("sum on DAY 30", horn.sum(30, 0, 0, 0, 0, 1), 10);
        Due.is("sum on DAY 119", horn.sum(119, 0, 0, 0, 0, 1), 32);
        Due.is("sum on DAY 120", horn.sum(120, 0, 0, 0, 0, 1), -1);
        horn.days(1);
        horn.clean(0, 0, 400, 20);
        Due.is("sum of an earlier DAY by what is true NOW", horn.sum(30, 0, 0, 0, 0, 1), 20);
        int[] greatest = {120, 15, 9, 23, 9, 40};
        for (int i = 0; i < 6; i++) {
            int[] at = {0, 0, 0, 0, 0, 1};
            at[i] = greatest[i] + 1;
            Due.is("sum above an edge", horn.sum(at[0], at[1], at[2], at[3], at[4], at[5]), HIDDEN);
            at[i] = i == 5 ? 0 : -1;
            Due.is("sum below an edge", horn.sum(at[0], at[1], at[2], at[3], at[4], at[5]), HIDDEN);
        }
    }

    private static void draws() {
        HissHorn horn = new HissHorn();
        Due.is("heard of seed 0", horn.heard(0, 0, 0, 0, 1, 50, 0), 1442695040888963407L / (1L << 33) % 101 - 50);
        long seed = -1;
        long x = Long.remainderUnsigned(seed * 6364136223846793005L + 1442695040888963407L >>> 33, 101) - 50;
        Due.is("heard of a draw with the highest bit", horn.heard(0, 0, 0, 0, 1, 50, seed), x);
        Due.text(horn, 0, "y:e*100");
        horn.part(0, 0, 0, 7);
        horn.days(40);
        Due.is("heard without noise, in the SEASON of NOW", horn.heard(0, 0, 0, 0, 1, 0, 12345), 7);
        Due.is("noise -1", horn.heard(0, 0, 0, 0, 1, -1, 1), HIDDEN);
        Due.is("noise 51", horn.heard(0, 0, 0, 0, 1, 51, 1), HIDDEN);
        Due.is("d 16", horn.heard(16, 0, 0, 0, 1, 0, 1), HIDDEN);
        Due.is("a 10", horn.heard(0, 10, 0, 0, 1, 0, 1), HIDDEN);
        Due.is("h 24", horn.heard(0, 0, 24, 0, 1, 0, 1), HIDDEN);
        Due.is("w 10", horn.heard(0, 0, 0, 10, 1, 0, 1), HIDDEN);
        Due.is("l 0", horn.heard(0, 0, 0, 0, 0, 0, 1), HIDDEN);
        Due.is("l 41", horn.heard(0, 0, 0, 0, 41, 0, 1), HIDDEN);
    }
}
