/**
 * Each argument of each call: just within its bounds it is answered, just beyond them, and as the least and the greatest
 * int, it is refused as told, and nothing has changed ("What is refused answers as told and changes nothing").
 */
public final class RefusedTest {
    private static final int NONE = HissHorn.NONE;
    private static final int HIDDEN = HissHorn.HIDDEN;
    private static final int FALSE = 0;
    private static final int LEAST = Integer.MIN_VALUE;
    private static final int GREATEST = Integer.MAX_VALUE;
    private static final int NOW = 35;

    private final Tale tale;
    private final Portrait portrait;

    private RefusedTest(Tale tale) {
        this.tale = tale;
        portrait = new Portrait(tale);
        portrait.check();
    }

    public static void main(String[] args) {
        RefusedTest ordinary = new RefusedTest(States.ordinary());
        ordinary.tapeAndDays();
        ordinary.laws();
        ordinary.parts();
        ordinary.readings();
        ordinary.looks();
        ordinary.houses();
        ordinary.toldBehind();
        new RefusedTest(States.honest()).found();
        new RefusedTest(new Tale()).fresh();
        new RefusedTest(States.texts(new Tale()).tape("y:1+2")).fullOfTexts();
        RefusedTest full = new RefusedTest(States.full());
        full.full();
        full.allOfFull();
        Due.end();
    }

    private static Call call(String name, Object... arguments) {
        return new Call(name, arguments);
    }

    private void refused(Call call, long want) {
        portrait.checkRefused(call, want);
    }

    private void answered(Call call, long refusal) {
        long want = call.of(tale.model());
        Due.is(call + " is not refused", want != refusal, true);
        Due.is(call.toString(), call.of(tale.horn()), want);
    }

    /** One argument of a call that is sound otherwise: its bounds. */
    private void bounds(Call call, long refusal, int place, int least, int greatest) {
        answered(call.with(place, least), refusal);
        answered(call.with(place, greatest), refusal);
        refused(call.with(place, least - 1), refusal);
        refused(call.with(place, greatest + 1), refusal);
        refused(call.with(place, LEAST), refusal);
        refused(call.with(place, GREATEST), refusal);
    }

    /** d a h w l of an AIM, behind one another. */
    private void aim(Call call, long refusal, int place) {
        bounds(call, refusal, place, 0, 15);
        bounds(call, refusal, place + 1, 0, 9);
        bounds(call, refusal, place + 2, 0, 23);
        bounds(call, refusal, place + 3, 0, 9);
        bounds(call, refusal, place + 4, 1, 40);
    }

    /** Of a span: from is bound by to, and to by from. */
    private void span(Call call, long refusal, int place, int least, int greatest) {
        bounds(call, refusal, place, least, (Integer) call.arguments()[place + 1]);
        bounds(call, refusal, place + 1, (Integer) call.arguments()[place], greatest);
        answered(call.with(place, least).with(place + 1, greatest), refusal);
        answered(call.with(place, least).with(place + 1, least), refusal);
        answered(call.with(place, greatest).with(place + 1, greatest), refusal);
        refused(call.with(place, least - 1).with(place + 1, least - 1), refusal);
        refused(call.with(place, greatest + 1).with(place + 1, greatest + 1), refusal);
        refused(call.with(place, greatest).with(place + 1, least), refusal);
        refused(call.with(place, LEAST).with(place + 1, GREATEST), refusal);
        refused(call.with(place, GREATEST).with(place + 1, LEAST), refusal);
    }

    private void tapeAndDays() {
        bounds(call("days", 1), NONE, 0, 0, 60);
        bounds(call("end", 2), FALSE, 0, 0, 5);
        bounds(call("fault", 0), -2, 0, 0, 2);
        bounds(call("text", 0), NONE, 0, 0, 2);
        bounds(call("count", 1), NONE, 0, 0, 13);
    }

    /** Of a LAW: its number, its AIM and the SEASON. */
    private void laws() {
        Call worth = call("worth", 0, 1, 2, 3, 1, 5, 6);
        bounds(worth, Call.THROWS, 0, 0, 1);
        bounds(worth, Call.THROWS, 1, 0, 15);
        bounds(worth, Call.THROWS, 2, 0, 9);
        bounds(worth, Call.THROWS, 3, 0, 23);
        bounds(worth, Call.THROWS, 4, 0, 3);
        bounds(worth, Call.THROWS, 5, 0, 9);
        bounds(worth, Call.THROWS, 6, 1, 40);
        bounds(call("sum", 1, 2, 3, 4, 5, 6), HIDDEN, 0, 0, 120);
        aim(call("sum", 1, 2, 3, 4, 5, 6), HIDDEN, 1);
        aim(call("heard", 2, 3, 4, 5, 6, 7, 8L), HIDDEN, 0);
        bounds(call("heard", 2, 3, 4, 5, 6, 7, 8L), HIDDEN, 5, 0, 50);
        for (long seed : new long[] {Long.MIN_VALUE, -1, 0, 1, Long.MAX_VALUE}) {
            answered(call("heard", 2, 3, 4, 5, 6, 50, seed), HIDDEN);
        }
    }

    private void parts() {
        bounds(call("part", 1, 100, 200, 150), NONE, 0, 0, 1);
        span(call("part", 1, 100, 200, 150), NONE, 1, 0, 400);
        bounds(call("part", 1, 100, 200, 150), NONE, 3, 0, 400);
        bounds(call("span", 1, NOW, 0), NONE, 0, 0, 2);
        bounds(call("span", 1, NOW, 0), NONE, 1, 0, NOW);
        bounds(call("span", 1, NOW, 0), NONE, 2, 0, 1);
        bounds(call("clean", 1, 100, 200, 150), FALSE, 0, 0, 2);
        span(call("clean", 1, 100, 200, 150), FALSE, 1, 0, 400);
        bounds(call("clean", 1, 100, 200, 150), FALSE, 3, 0, 400);
    }

    private void readings() {
        aim(call("read", 2, 3, 4, 5, 6, 7), NONE, 0);
        bounds(call("read", 2, 3, 4, 5, 6, 7), NONE, 5, -100000, 100000);
        bounds(call("left", 1, NOW, 0), HIDDEN, 0, 0, 3);
        bounds(call("left", 1, NOW, 0), HIDDEN, 1, 0, NOW);
        bounds(call("left", 1, NOW, 0), HIDDEN, 2, 0, 1);
        bounds(call("most", 1, NOW), NONE, 0, 0, 3);
        bounds(call("most", 1, NOW), NONE, 1, 0, NOW);
        bounds(call("goes", NOW, 1), HIDDEN, 0, 0, NOW);
        bounds(call("goes", NOW, 1), HIDDEN, 1, 0, 5);
        bounds(call("even", NOW, 0), HIDDEN, 0, 0, NOW);
        bounds(call("even", NOW, 0), HIDDEN, 1, 0, 1);
        bounds(call("leans", 1, 1), HIDDEN, 0, 0, 3);
        bounds(call("leans", 1, 1), HIDDEN, 1, 0, 2);
    }

    private void looks() {
        bounds(call("look", 1, 100, 200, 9), NONE, 0, 0, 2);
        span(call("look", 1, 100, 200, 9), NONE, 1, 0, 400);
        bounds(call("look", 1, 100, 200, 9), NONE, 3, 1, 50);
        bounds(call("done", 0), FALSE, 0, 0, 2);
        refused(call("done", 1), FALSE);
        bounds(call("narrows", 1, 1), HIDDEN, 0, 1, 1);
        bounds(call("narrows", 1, 1), HIDDEN, 1, 0, 3);
        bounds(call("plan", 1, 9, 0), NONE, 0, 0, 3);
        bounds(call("plan", 1, 9, 0), NONE, 1, 0, 500);
        bounds(call("plan", 1, 9, 0), NONE, 2, 0, 1);
        bounds(call("judge", 5, 1), -2, 1, 0, 3);
        bounds(call("judge", 5, 1), -2, 0, 0, 1);
        bounds(call("judge", 5, 1), -2, 0, 4, 5);
        refused(call("judge", 6, 1), -2);
        refused(call("judge", 7, 1), -2);
        refused(call("judge", 8, 1), -2);
        refused(call("judge", 1 << 10, 1), -2);
        refused(call("judge", LEAST | 1, 1), -2);
    }

    private void houses() {
        for (boolean paper : new boolean[] {false, true}) {
            bounds(call("print", 1, paper, -5, 5), NONE, 0, 0, 2);
            span(call("print", 1, paper, -5, 5), NONE, 2, -400, 400);
            bounds(call("knows", 1, paper, 1, NOW), NONE, 0, 0, 2);
            bounds(call("knows", 1, paper, 1, NOW), NONE, 2, 0, paper ? 1 : 2);
            bounds(call("knows", 1, paper, 1, NOW), NONE, 3, 0, NOW);
        }
        bounds(call("had", NOW, 0), NONE, 0, 0, NOW);
        bounds(call("had", NOW, 0), NONE, 1, 0, 1);
        bounds(call("letter", 0, 1), FALSE, 0, 0, 0);
        bounds(call("letter", 2, 0), FALSE, 0, 1, 2);
        bounds(call("letter", 0, 1), FALSE, 1, 1, 2);
        refused(call("letter", LEAST, LEAST), FALSE);
        refused(call("letter", GREATEST, GREATEST), FALSE);
        bounds(call("sooner", 0), NONE, 0, 0, 3);
    }

    /** PART 2 is of DAY 33, READING 3 of DAY 34. */
    private void toldBehind() {
        bounds(call("span", 2, NOW, 0), NONE, 1, 33, NOW);
        bounds(call("left", 3, NOW, 0), HIDDEN, 1, 34, NOW);
    }

    /** Where something is ALIKE, where each PART COULD be it, and where GUESSES have FITS. */
    private void found() {
        bounds(call("alike", 5, 0), HIDDEN, 0, 0, 9);
        bounds(call("alike", 5, 0), HIDDEN, 1, 0, 1);
        bounds(call("could", 0, 5, 0), NONE, 0, 0, 1);
        bounds(call("could", 0, 5, 0), NONE, 1, 0, 9);
        bounds(call("could", 0, 5, 0), NONE, 2, 0, 1);
        bounds(call("could", 2, 9, 1), NONE, 1, 7, 9);
        bounds(call("sets", 5), NONE, 0, 0, 9);
        bounds(call("fits", 0, 5, 0), NONE, 0, 0, 1);
        bounds(call("fits", 0, 5, 0), NONE, 1, 0, 9);
        bounds(call("fits", 0, 5, 0), NONE, 2, 0, 2);
        bounds(call("next", 0, 1, 5, 0), NONE, 0, 0, 1);
        bounds(call("next", 1, 0, 5, 0), NONE, 1, 0, 1);
        bounds(call("next", 0, 1, 5, 0), NONE, 2, 0, 9);
        bounds(call("next", 0, 1, 5, 0), NONE, 3, 0, 1);
        bounds(call("say", 0), NONE, 0, 0, 1);
        bounds(call("sooner", 2), NONE, 0, 0, 3);
        bounds(call("days", 0), NONE, 0, 0, 60);
    }

    /** Of an object that was told nothing there is nothing to ask for. */
    private void fresh() {
        for (int n : new int[] {LEAST, -1, 0, 1, GREATEST}) {
            refused(call("text", n), NONE);
            refused(call("worth", n, 0, 0, 0, 0, 0, 1), Call.THROWS);
            refused(call("part", n, 0, 0, 0), NONE);
            refused(call("span", n, 0, 0), NONE);
            refused(call("left", n, 0, 0), HIDDEN);
            refused(call("most", n, 0), NONE);
            refused(call("could", n, 0, 0), NONE);
            refused(call("look", n, 0, 0, 1), NONE);
            refused(call("done", n), FALSE);
            refused(call("clean", n, 0, 0, 0), FALSE);
            refused(call("narrows", n, n), HIDDEN);
            refused(call("plan", n, 0, 0), NONE);
            refused(call("judge", 0, n), -2);
            refused(call("leans", n, n), HIDDEN);
            refused(call("fits", n, 0, 2), NONE);
            refused(call("next", n, n, 0, 0), NONE);
            refused(call("print", n, false, 0, 0), NONE);
            refused(call("print", n, true, 0, 0), NONE);
            refused(call("letter", n, 0), FALSE);
            refused(call("letter", 0, n), FALSE);
            refused(call("knows", n, false, n, 0), NONE);
            refused(call("knows", n, true, n, 0), NONE);
            refused(call("sooner", n), NONE);
            refused(call("say", n), NONE);
            refused(call("alike", 0, n), HIDDEN);
            refused(call("goes", 0, n), HIDDEN);
            refused(call("even", 0, n), HIDDEN);
        }
        bounds(call("end", 0), FALSE, 0, 0, 0);
        bounds(call("sets", 0), NONE, 0, 0, 0);
        bounds(call("had", 0, 0), NONE, 0, 0, 0);
        refused(call("met"), NONE);
        answered(call("nothing"), NONE);
        answered(call("days", 0), NONE);
        answered(call("sum", 120, 15, 9, 23, 9, 40), HIDDEN);
        answered(call("heard", 15, 9, 23, 9, 40, 50, 1L), HIDDEN);
    }

    /** The TAPE has no FAULT, but there are so many. */
    private void fullOfTexts() {
        for (int sort = 0; sort <= 2; sort++) {
            Due.is("fault(" + sort + ") of y:1+2", tale.horn().fault(sort), NONE);
            refused(call("text", sort), NONE);
        }
        bounds(call("worth", 0, 0, 0, 0, 0, 0, 1), Call.THROWS, 0, 0, 11);
        bounds(call("fits", 0, 0, 2), NONE, 0, 0, 5);
        bounds(call("next", 0, 5, 0, 0), NONE, 0, 0, 5);
        bounds(call("next", 5, 0, 0, 0), NONE, 1, 0, 5);
        bounds(call("part", 0, 1, 2, 3), NONE, 0, 0, 11);
    }

    /** There are as many of all as there may be. */
    private void full() {
        int[] counts = {120, 12, 6, 6, 12, 80, 10, 9, 20, 8, 40, 20, 60, 120};
        for (int i = 0; i < counts.length; i++) Due.is("count(" + i + ")", tale.horn().count(i), counts[i]);
        for (int n : new int[] {1, 2, 60, 61, LEAST, GREATEST}) refused(call("days", n), NONE);
        answered(call("days", 0), NONE);
        refused(call("feed", 0, 0, 0, 0, 1), NONE);
        refused(call("feed", 0x79000000, 0, 0, 0, 0), NONE);
        refused(call("feed", -1, -1, -1, -1, -1), NONE);
        answered(call("feed", 0, 0, 0, 0, 0), NONE);
        for (int sort = 0; sort <= 2; sort++) refused(call("text", sort), NONE);
        refused(call("part", 0, 0, 0, 0), NONE);
        refused(call("read", 0, 0, 0, 0, 1, 0), NONE);
        refused(call("look", 0, 0, 0, 1), NONE);
        for (int look = 0; look < 9; look++) refused(call("done", look), FALSE);
        answered(call("done", 9), FALSE);
        refused(call("clean", 0, 0, 0, 0), FALSE);
        refused(call("house"), NONE);
        refused(call("print", 0, false, 0, 0), NONE);
        refused(call("print", 0, true, 0, 0), NONE);
        refused(call("letter", 0, 1), FALSE);
        refused(call("letter", 7, 6), FALSE);
    }

    /** The first and the last of all that there are. */
    private void allOfFull() {
        bounds(call("worth", 0, 0, 0, 0, 0, 0, 1), Call.THROWS, 0, 0, 11);
        bounds(call("span", 0, 120, 0), NONE, 0, 0, 11);
        bounds(call("span", 0, 120, 0), NONE, 1, 0, 120);
        bounds(call("left", 0, 120, 0), HIDDEN, 0, 0, 79);
        bounds(call("most", 0, 120), NONE, 0, 0, 79);
        bounds(call("leans", 79, 0), HIDDEN, 1, 0, 11);
        bounds(call("narrows", 0, 79), HIDDEN, 0, 0, 8);
        bounds(call("plan", 79, 500, 1), NONE, 0, 0, 79);
        bounds(call("judge", 1 << 9, 79), -2, 0, 1 << 9, 1 << 9);
        bounds(call("fits", 0, 120, 2), NONE, 0, 0, 5);
        bounds(call("knows", 7, false, 0, 120), NONE, 2, 0, 39);
        bounds(call("knows", 7, true, 0, 120), NONE, 2, 0, 19);
        bounds(call("knows", 0, true, 0, 120), NONE, 0, 0, 7);
        bounds(call("knows", 0, true, 0, 120), NONE, 3, 0, 120);
        bounds(call("say", 0), NONE, 0, 0, 5);
        bounds(call("end", 60), FALSE, 0, 0, 120);
    }
}
