/** Promises 27, 28 and 37: FITS, the NEXT wave, and when it is SAID. */
public final class GuessTest {
    public static void main(String[] args) {
        fits();
        nexts();
        saids();
        Due.end();
    }

    private static void fit(HissHorn horn, int guess, int q, int least, int greatest, int many) {
        Due.is("fits(" + guess + ", " + q + ", 0)", horn.fits(guess, q, 0), least);
        Due.is("fits(" + guess + ", " + q + ", 1)", horn.fits(guess, q, 1), greatest);
        Due.is("fits(" + guess + ", " + q + ", 2)", horn.fits(guess, q, 2), many);
    }

    private static void fits() {
        HissHorn horn = new HissHorn();
        fit(horn, 0, 0, -1, -1, -1);
        Due.text(horn, 0, "y:100");
        Due.text(horn, 1, "y:l*a");
        Due.text(horn, 1, "y:a/20");
        Due.text(horn, 1, "y:9999");
        fit(horn, 0, 0, 0, 60, 61);
        horn.part(0, 0, 10, 0);
        horn.days(1);
        horn.read(0, 0, 0, 0, 2, 30);
        fit(horn, 0, 1, 10, 15, 6);
        fit(horn, 0, 0, 0, 60, 61);
        horn.read(0, 0, 0, 0, 3, 40);
        fit(horn, 0, 1, 10, 13, 4);
        horn.days(1);
        horn.read(0, 0, 0, 0, 2, 12);
        fit(horn, 0, 2, -1, -1, 0);
        fit(horn, 0, 1, 10, 13, 4);
        fit(horn, 2, 1, -1, -1, 0);
        fit(horn, 3, 1, -1, -1, -1);
        fit(horn, -1, 1, -1, -1, -1);
        fit(horn, 0, 3, -1, -1, -1);
        fit(horn, 0, -1, -1, -1, -1);
        HissHorn ends = new HissHorn();
        Due.text(ends, 0, "y:100");
        Due.text(ends, 1, "y:a");
        ends.part(0, 0, 10, 0);
        ends.read(0, 0, 0, 0, 1, 30);
        fit(ends, 0, 0, 20, 30, 11);
        ends.read(0, 0, 0, 0, 1, 25);
        fit(ends, 0, 0, 20, 25, 6);
        ends.read(0, 0, 0, 0, 1, 32);
        fit(ends, 0, 0, 22, 25, 4);
        ends.read(0, 0, 0, 0, 40, 33);
        fit(ends, 0, 0, 23, 25, 3);
        Due.is("fits with what 3", horn.fits(0, 1, 3), -1);
        Due.is("fits with what -1", horn.fits(0, 1, -1), -1);
    }

    private static void next(HissHorn horn, int one, int other, int q, int wave, int apart) {
        Due.is("next(" + one + ", " + other + ", " + q + ", 0)", horn.next(one, other, q, 0), wave);
        Due.is("next(" + one + ", " + other + ", " + q + ", 1)", horn.next(one, other, q, 1), apart);
    }

    private static void nexts() {
        HissHorn horn = new HissHorn();
        Due.text(horn, 1, "y:l*a");
        Due.text(horn, 1, "y:a+l*l");
        Due.text(horn, 1, "y:9999");
        next(horn, 0, 1, 0, 40, 1600);
        horn.days(1);
        horn.read(0, 0, 0, 0, 10, 100);
        next(horn, 0, 1, 1, 40, 1200);
        next(horn, 1, 0, 1, 40, 1200);
        next(horn, 0, 1, 0, 40, 1600);
        next(horn, 0, 0, 1, 1, 0);
        next(horn, 0, 2, 1, -1, -1);
        next(horn, 2, 0, 1, -1, -1);
        next(horn, 2, 0, 0, 1, 9999);
        next(horn, 0, 3, 1, -1, -1);
        next(horn, 3, 0, 1, -1, -1);
        next(horn, -1, 0, 1, -1, -1);
        next(horn, 0, -1, 1, -1, -1);
        next(horn, 0, 1, 2, -1, -1);
        next(horn, 0, 1, -1, -1, -1);
        Due.is("next with what 2", horn.next(0, 1, 1, 2), -1);
        Due.is("next with what -1", horn.next(0, 1, 1, -1), -1);
    }

    private static int said(HissHorn horn, String rule) {
        int number = Due.text(horn, 2, rule);
        return horn.say(number);
    }

    private static void saids() {
        HissHorn horn = new HissHorn();
        Due.is("say of no RULE", horn.say(0), -1);
        Due.is("say of RULE -1", horn.say(-1), -1);
        Due.text(horn, 0, "y:100");
        horn.part(0, 10, 50, 0);
        horn.look(0, 20, 30, 1);
        horn.days(3);
        horn.read(0, 0, 0, 0, 1, 100);
        horn.days(2);
        horn.read(0, 0, 0, 0, 1, 130);
        horn.days(2);
        horn.done(0);
        horn.days(2);
        Due.is("n", said(horn, "y:n>1?1"), 5);
        Due.is("g, there being none at first", said(horn, "y:t>0&g=0?1"), 1);
        Due.is("b", said(horn, "y:b=80?1"), 5);
        Due.is("g by what was known", said(horn, "y:g"), 3);
        Due.is("k and t", said(horn, "y:k*[t-7]"), 8);
        Due.is("g, there being none at last", said(horn, "y:k=1&b=0&g=0?0-1"), 7);
        HissHorn wide = new HissHorn();
        Due.text(wide, 0, "y:100");
        wide.part(0, 10, 50, 0);
        wide.read(0, 0, 0, 0, 1, 100);
        wide.days(1);
        Due.is("g on DAY 0", said(wide, "y:g=40?1"), 0);
        Due.is("b on DAY 0", said(wide, "y:b=50?1"), 0);
        Due.is("n and k on DAY 0", said(wide, "y:n=1&k=0&t=0?1"), 0);
        HissHorn other = new HissHorn();
        other.days(60);
        other.days(60);
        Due.is("t", said(other, "y:t=120?1"), 120);
        Due.is("not yet", said(other, "y:t>120?1"), -1);
        Due.is("say of RULE 2", other.say(2), -1);
    }
}
