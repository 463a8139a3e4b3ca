/** Promises 29 to 35: HOUSES, PRINTS, FORETOLD ones, LETTERS, MET and SOONER. */
public final class HouseTest {
    public static void main(String[] args) {
        houses();
        prints();
        having();
        letters();
        knowing();
        meeting();
        sooner();
        soonerByTheOrder();
        Due.end();
    }

    private static HissHorn horn(int houses) {
        HissHorn horn = new HissHorn();
        for (int i = 0; i < houses; i++) {
            Due.is("house()", horn.house(), i);
        }
        return horn;
    }

    private static void houses() {
        HissHorn horn = horn(8);
        Due.is("a ninth house", horn.house(), -1);
        Due.is("HOUSES", horn.count(9), 8);
    }

    private static void prints() {
        HissHorn horn = horn(1);
        for (int i = 0; i < 2; i++) {
            boolean paper = i == 1;
            Due.is("print by HOUSE 1", horn.print(1, paper, 0, 0), -1);
            Due.is("print by HOUSE -1", horn.print(-1, paper, 0, 0), -1);
            Due.is("print from -401", horn.print(0, paper, -401, 0), -1);
            Due.is("print to 401", horn.print(0, paper, 0, 401), -1);
            Due.is("print from and to 401", horn.print(0, paper, 401, 401), -1);
            Due.is("print to below from", horn.print(0, paper, 1, 0), -1);
            int most = paper ? 20 : 40;
            for (int j = 0; j < most; j++) {
                Due.is("print", horn.print(0, paper, -400, 400), j);
            }
            Due.is("print beyond its number", horn.print(0, paper, 0, 0), -1);
            Due.is("PRINTS", horn.count(10 + i), most);
        }
    }

    private static void having() {
        HissHorn horn = horn(1);
        horn.print(0, false, 0, 0);
        horn.print(0, false, 0, 1);
        horn.print(0, true, 1, 1);
        horn.days(1);
        horn.print(0, false, 1, 1);
        horn.print(0, false, -400, -1);
        HissHorn one = horn(1);
        one.print(0, false, 1, 1);
        Due.is("had of the first PRINT", one.had(0, 0), 1);
        Due.is("could have had of none", one.had(0, 1), 0);
        Due.is("had(1, 0)", horn.had(1, 0), 1);
        Due.is("had(1, 1)", horn.had(1, 1), 1);
        Due.is("had(0, 0)", horn.had(0, 0), 0);
        Due.is("had(0, 1)", horn.had(0, 1), 1);
        Due.is("had(2, 0)", horn.had(2, 0), -1);
        Due.is("had(-1, 0)", horn.had(-1, 0), -1);
        Due.is("had(1, 2)", horn.had(1, 2), -1);
        Due.is("had(1, -1)", horn.had(1, -1), -1);
    }

    private static void letters() {
        HissHorn horn = horn(2);
        Due.is("letter to itself", horn.letter(1, 1), false);
        Due.is("letter to HOUSE 2", horn.letter(0, 2), false);
        Due.is("letter to HOUSE -1", horn.letter(0, -1), false);
        Due.is("letter from HOUSE 2", horn.letter(2, 0), false);
        Due.is("letter from HOUSE -1", horn.letter(-1, 0), false);
        for (int i = 0; i < 60; i++) {
            Due.is("letter", horn.letter(0, 1), true);
        }
        Due.is("LETTER 61", horn.letter(0, 1), false);
        Due.is("LETTERS", horn.count(12), 60);
    }

    private static void knowing() {
        HissHorn horn = horn(3);
        horn.print(0, false, 1, 2);
        horn.print(0, true, 100, 200);
        horn.letter(0, 1);
        Due.is("a LETTER of the same DAY does not tell", horn.knows(1, false, 0, 0), 0);
        Due.is("its own", horn.knows(0, false, 0, 0), 1);
        horn.days(1);
        horn.letter(1, 2);
        horn.letter(0, 1);
        Due.is("told by a LETTER", horn.knows(1, false, 0, 1), 1);
        Due.is("FORETOLD told by a LETTER", horn.knows(1, true, 0, 1), 1);
        Due.is("not passed on the same DAY", horn.knows(2, false, 0, 1), 0);
        horn.days(1);
        Due.is("no LETTER, nothing new", horn.knows(2, false, 0, 2), 0);
        horn.letter(1, 2);
        Due.is("passed on", horn.knows(2, true, 0, 2), 1);
        Due.is("not yet the DAY before", horn.knows(2, true, 0, 1), 0);
        Due.is("knows of HOUSE 3", horn.knows(3, false, 0, 0), -1);
        Due.is("knows of HOUSE -1", horn.knows(-1, false, 0, 0), -1);
        Due.is("knows PRINT 1", horn.knows(0, false, 1, 0), -1);
        Due.is("knows PRINT -1", horn.knows(0, false, -1, 0), -1);
        Due.is("knows FORETOLD 1", horn.knows(0, true, 1, 0), -1);
        Due.is("knows on DAY 3", horn.knows(0, false, 0, 3), -1);
        Due.is("knows on DAY -1", horn.knows(0, false, 0, -1), -1);
    }

    private static void meeting() {
        HissHorn horn = horn(2);
        Due.is("met at first", horn.met(), -1);
        horn.print(0, false, 10, 20);
        horn.print(0, true, 21, 30);
        Due.is("spans side by side", horn.met(), -1);
        horn.days(1);
        horn.print(0, false, 0, 40);
        Due.is("a PRINT that only COULD have it", horn.met(), -1);
        horn.days(1);
        horn.print(1, true, -5, 10);
        Due.is("in two HOUSES", horn.met(), -1);
        horn.days(1);
        horn.letter(1, 0);
        Due.is("met by a LETTER, at the edge of both spans", horn.met(), 3);
        horn.days(5);
        Due.is("met stays", horn.met(), 3);
        HissHorn first = horn(1);
        first.print(0, true, 300, 400);
        first.print(0, false, 1, 1);
        first.print(0, true, 1, 5);
        Due.is("met on DAY 0", first.met(), 0);
        HissHorn cross = horn(2);
        cross.print(0, false, 1, 1);
        cross.print(0, true, 2, 2);
        cross.print(1, false, 2, 2);
        cross.print(1, true, 1, 1);
        Due.is("each HOUSE has what the other lacks", cross.met(), -1);
        HissHorn own = horn(1);
        own.days(7);
        own.print(0, true, 5, 5);
        own.print(0, false, 5, 5);
        Due.is("met in its own HOUSE", own.met(), 7);
    }

    private static void sooner(HissHorn horn, int from, int to, int day, int met) {
        Due.is("sooner(0)", horn.sooner(0), from);
        Due.is("sooner(1)", horn.sooner(1), to);
        Due.is("sooner(2)", horn.sooner(2), day);
        Due.is("sooner(3)", horn.sooner(3), met);
    }

    private static void sooner() {
        HissHorn horn = horn(3);
        sooner(horn, -1, -1, -1, -1);
        horn.days(2);
        horn.print(0, false, 1, 9);
        sooner(horn, -1, -1, -1, -1);
        horn.days(2);
        horn.letter(1, 2);
        horn.days(2);
        horn.print(2, true, 9, 9);
        Due.is("not met", horn.met(), -1);
        sooner(horn, 0, 1, 3, 6);
        horn.days(1);
        horn.letter(2, 0);
        Due.is("met", horn.met(), 7);
        sooner(horn, 0, 1, 3, 6);
        Due.is("sooner(4)", horn.sooner(4), -1);
        Due.is("sooner(-1)", horn.sooner(-1), -1);
        HissHorn best = horn(2);
        best.print(0, false, 1, 1);
        best.print(1, true, 1, 1);
        best.days(1);
        best.letter(1, 0);
        sooner(best, -1, -1, -1, -1);
    }

    /** A LETTER that reaches a HOUSE by another one that was sent. */
    private static void soonerByTheOrder() {
        HissHorn horn = horn(4);
        horn.print(3, false, 1, 1);
        horn.print(1, true, 1, 1);
        horn.days(2);
        horn.letter(2, 1);
        horn.days(1);
        sooner(horn, 1, 3, 1, 1);
        HissHorn chained = horn(3);
        chained.days(1);
        chained.print(0, false, 1, 1);
        chained.days(3);
        chained.letter(1, 2);
        chained.days(1);
        chained.print(2, true, 1, 1);
        sooner(chained, 0, 1, 2, 5);
    }
}
