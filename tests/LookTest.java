/** Promises 19 to 26: LOOKS, CLEANINGS, NARROWS, FOR NOTHING, PLAN, ROWS judged, LEANS. */
public final class LookTest {
    private static final int HIDDEN = HissHorn.HIDDEN;

    public static void main(String[] args) {
        looks();
        cleanings();
        narrowing();
        plans();
        rows();
        leaning();
        Due.end();
    }

    private static HissHorn horn() {
        HissHorn horn = new HissHorn();
        Due.text(horn, 0, "y:100");
        Due.text(horn, 0, "y:0-d*100");
        horn.part(0, 10, 50, 0);
        horn.part(1, 0, 100, 0);
        return horn;
    }

    private static void looks() {
        HissHorn horn = horn();
        Due.is("look at PART 2", horn.look(2, 0, 0, 1), -1);
        Due.is("look at PART -1", horn.look(-1, 0, 0, 1), -1);
        Due.is("look from -1", horn.look(0, -1, 0, 1), -1);
        Due.is("look to 401", horn.look(0, 0, 401, 1), -1);
        Due.is("look to below from", horn.look(0, 3, 2, 1), -1);
        Due.is("look for 0", horn.look(0, 0, 0, 0), -1);
        Due.is("look for 51", horn.look(0, 0, 0, 51), -1);
        Due.is("LOOKS behind refused ones", horn.count(6), 0);
        Due.is("look at the edges", horn.look(0, 0, 400, 50), 0);
        for (int i = 1; i < 10; i++) {
            Due.is("look", horn.look(1, 400, 400, 1), i);
        }
        Due.is("an eleventh look", horn.look(1, 400, 400, 1), -1);
        Due.is("done(10)", horn.done(10), false);
        Due.is("done(-1)", horn.done(-1), false);
        Due.is("done(9)", horn.done(9), true);
        Due.is("done(9) again", horn.done(9), false);
        Due.is("LOOKS DONE", horn.count(7), 1);
        Due.is("span behind it", horn.span(1, 0, 0), 400);
    }

    private static void cleanings() {
        HissHorn horn = horn();
        Due.is("clean PART 2", horn.clean(2, 0, 0, 0), false);
        Due.is("clean PART -1", horn.clean(-1, 0, 0, 0), false);
        Due.is("clean from -1", horn.clean(0, -1, 0, 0), false);
        Due.is("clean to 401", horn.clean(0, 0, 401, 0), false);
        Due.is("clean to below from", horn.clean(0, 2, 1, 0), false);
        Due.is("clean truly -1", horn.clean(0, 0, 0, -1), false);
        Due.is("clean truly 401", horn.clean(0, 0, 0, 401), false);
        Due.is("CLEANINGS behind refused ones", horn.count(8), 0);
        for (int i = 0; i < 20; i++) {
            Due.is("clean", horn.clean(0, i, 400, 300), true);
        }
        Due.is("CLEANING 21", horn.clean(0, 0, 0, 0), false);
        Due.is("CLEANINGS", horn.count(8), 20);
        Due.is("span of the last one", horn.span(0, 0, 0), 19);
        Due.is("what it truly is", horn.sum(0, 0, 0, 0, 0, 1), 300);
        for (int i = 0; i < 10; i++) {
            horn.look(0, 100 + i, 200, 1);
            horn.done(i);
        }
        Due.is("span behind all changes", horn.span(0, 0, 0), 109);
    }

    private static void narrowing() {
        HissHorn horn = horn();
        horn.read(2, 0, 0, 0, 1, 0);
        horn.look(1, 40, 60, 1);
        horn.look(1, 200, 400, 1);
        horn.look(1, 100, 400, 1);
        horn.look(0, 0, 30, 1);
        Due.is("narrows ahead of it", horn.narrows(0, 0), HIDDEN);
        Due.is("nothing ahead of all", horn.nothing(), 0);
        horn.done(0);
        Due.is("narrows of two times 100 to 20", horn.narrows(0, 0), 160);
        horn.days(5);
        horn.done(1);
        Due.is("a LOOK apart makes it wider", horn.narrows(1, 0), 40 - 400);
        Due.is("the earlier one as it was then", horn.narrows(0, 0), 160);
        horn.done(2);
        Due.is("narrows nothing", horn.narrows(2, 0), 0);
        Due.is("nothing", horn.nothing(), 4);
        horn.clean(1, 0, 0, 0);
        horn.done(3);
        Due.is("narrows behind a CLEANING", horn.narrows(0, 0), 160);
        Due.is("narrows of another PART", horn.narrows(3, 0), 20);
        Due.is("nothing stays", horn.nothing(), 4);
        Due.is("narrows of LOOK 4", horn.narrows(4, 0), HIDDEN);
        Due.is("narrows of LOOK -1", horn.narrows(-1, 0), HIDDEN);
        Due.is("narrows of READING 1", horn.narrows(0, 1), HIDDEN);
        Due.is("narrows of READING -1", horn.narrows(0, -1), HIDDEN);
        HissHorn flat = horn();
        flat.read(0, 0, 0, 0, 1, 0);
        flat.look(1, 40, 60, 1);
        flat.done(0);
        flat.look(0, 10, 400, 1);
        Due.is("a LOOK that narrows nothing heard is yet not FOR NOTHING", flat.nothing(), 0);
        HissHorn first = horn();
        first.look(0, 10, 50, 1);
        first.look(0, 50, 60, 1);
        first.done(0);
        Due.is("the first LOOK FOR NOTHING", first.nothing(), 1);
        first.done(1);
        Due.is("one number in common is not nothing", first.span(0, 0, 0), 50);
        Due.is("nor is it wider", first.span(0, 0, 1), 50);
        Due.is("narrows where its LAW is 0", flat.narrows(0, 0), 0);
    }

    private static void plan(HissHorn horn, int coin, int bits, int width) {
        Due.is("plan(0, " + coin + ", 0)", horn.plan(0, coin, 0), bits);
        Due.is("plan(0, " + coin + ", 1)", horn.plan(0, coin, 1), width);
    }

    private static void plans() {
        HissHorn horn = horn();
        plan(horn, 10, -1, -1);
        horn.read(1, 0, 0, 0, 1, 0);
        plan(horn, 10, 0, 140);
        horn.look(0, 20, 30, 5);
        horn.look(1, 0, 70, 3);
        horn.look(1, 30, 100, 2);
        horn.look(0, 40, 50, 5);
        plan(horn, 0, 0, 140);
        plan(horn, 1, 0, 140);
        plan(horn, 2, 4, 110);
        plan(horn, 3, 4, 110);
        plan(horn, 4, 4, 110);
        plan(horn, 5, 6, 80);
        plan(horn, 7, 6, 80);
        plan(horn, 10, 7, 50);
        plan(horn, 500, 7, 50);
        plan(horn, 501, -1, -1);
        plan(horn, -1, -1, -1);
        Due.is("plan with what 2", horn.plan(0, 1, 2), -1);
        Due.is("plan with what -1", horn.plan(0, 1, -1), -1);
        Due.is("plan of READING 1", horn.plan(1, 1, 0), -1);
        Due.is("plan of READING -1", horn.plan(-1, 1, 0), -1);
        Due.is("span behind plans", horn.span(1, 0, 1), 100);
        Due.is("left behind plans", horn.left(0, 0, 1), 90);
        horn.done(0);
        plan(horn, 500, 6, 50);
        HissHorn alike = horn();
        alike.read(1, 0, 0, 0, 1, 0);
        alike.look(1, 0, 80, 2);
        alike.look(0, 10, 20, 4);
        alike.look(1, 20, 70, 2);
        alike.look(0, 40, 50, 4);
        alike.look(1, 50, 70, 4);
        plan(alike, 2, 4, 90);
        plan(alike, 4, 16, 60);
        plan(alike, 8, 18, 30);
        alike.done(4);
        plan(alike, 8, 2, 30);
    }

    private static void rows() {
        HissHorn horn = horn();
        Due.is("judge without READINGS", horn.judge(0, 0), -2);
        horn.read(1, 0, 0, 0, 1, 0);
        Due.is("judge an empty ROW", horn.judge(0, 0), 140);
        Due.is("judge LOOK 0 of none", horn.judge(1, 0), -2);
        horn.look(1, 90, 95, 1);
        horn.look(1, 0, 50, 1);
        horn.look(0, 0, 20, 1);
        Due.is("judge in the order of numbers", horn.judge(3, 0), 40 + 50);
        Due.is("judge one", horn.judge(1, 0), 40 + 5);
        Due.is("judge all", horn.judge(7, 0), 10 + 50);
        Due.is("judge one too many", horn.judge(8, 0), -2);
        Due.is("judge -1", horn.judge(-1, 0), -2);
        Due.is("judge READING 1", horn.judge(0, 1), -2);
        Due.is("judge READING -1", horn.judge(0, -1), -2);
        horn.done(0);
        Due.is("judge one that was DONE", horn.judge(1, 0), -2);
        Due.is("judge the others", horn.judge(6, 0), 10 + 50);
    }

    private static void leaning() {
        HissHorn horn = horn();
        horn.days(30);
        horn.read(3, 0, 0, 0, 1, 0);
        Due.text(horn, 0, "y:e");
        horn.part(2, 0, 0, 0);
        Due.is("leans on PART 1", horn.leans(0, 1), -300);
        Due.is("leans in the SEASON of the READING", horn.leans(0, 2), 1);
        horn.days(30);
        Due.is("leans later", horn.leans(0, 2), 1);
        Due.is("leans on PART 3", horn.leans(0, 3), HIDDEN);
        Due.is("leans on PART -1", horn.leans(0, -1), HIDDEN);
        Due.is("leans of READING 1", horn.leans(1, 0), HIDDEN);
        Due.is("leans of READING -1", horn.leans(-1, 0), HIDDEN);
    }
}
