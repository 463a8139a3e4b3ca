/** The sentences of "Terms" that name a bound, in their order, just within it and just beyond it. */
public final class TermsTest {
    private static final String[] LETTERS = {"dahewl", "la", "ngbkt"};
    private static final String DIGITS = "0123456789";

    public static void main(String[] args) {
        nowIsZeroAtFirstAnd120AtMost();
        asKnownInQ();
        seasonOfADay();
        oneClauseAtLeast();
        eachByteInEachPlace();
        oneToFourDigits();
        sixWithinOneAnother();
        blanksBetweenAllNotWithinNumbers();
        theLengthIfItEndsTooEarly();
        numbersBehindEachSign();
        byZeroGivesZero();
        zeroWithoutAClause();
        shinesCut();
        spanOfAPart();
        theLastCall();
        Due.end();
    }

    private static void fault(int sort, String text, int want) {
        Due.is("fault(" + sort + ") of '" + text + "'", Due.fault(new HissHorn(), sort, text), want);
    }

    private static void worth(String law, int want) {
        HissHorn horn = new HissHorn();
        Due.is("text of " + law, Due.text(horn, 0, law), 0);
        Due.is("worth of " + law, Due.worth(horn, 0, 15, 9, 23, 3, 7, 40), want);
    }

    private static void nowIsZeroAtFirstAnd120AtMost() {
        for (int ahead = 60; ahead <= 119; ahead++) {
            HissHorn horn = new HissHorn();
            Due.is("NOW at first", horn.count(0), 0);
            horn.days(60);
            horn.days(ahead - 60);
            Due.is("a DAY too many at " + ahead, horn.days(121 - ahead), -1);
            Due.is("NOW behind it", horn.count(0), ahead);
            Due.is("up to the last DAY from " + ahead, horn.days(120 - ahead), 120);
        }
    }

    /** Told on DAY 5: known in 5, not in 4. */
    private static void asKnownInQ() {
        HissHorn horn = new HissHorn();
        Due.text(horn, 0, "y:100");
        Due.text(horn, 1, "y:a");
        horn.part(0, 10, 50, 0);
        horn.look(0, 20, 400, 1);
        horn.read(8, 0, 0, 0, 1, 60);
        horn.house();
        horn.days(5);
        horn.done(0);
        horn.part(0, 1, 2, 0);
        horn.read(0, 1, 0, 0, 1, 65);
        horn.print(0, false, 1, 1);
        Due.is("SPAN ahead of a LOOK", horn.span(0, 4, 0), 10);
        Due.is("SPAN behind a LOOK", horn.span(0, 5, 0), 20);
        Due.is("a PART ahead of its DAY", horn.span(1, 4, 0), -1);
        Due.is("a PART on its DAY", horn.span(1, 5, 0), 1);
        Due.is("LEFT ahead of a PART and a LOOK", horn.left(0, 4, 1), 50);
        Due.is("LEFT behind them", horn.left(0, 5, 1), 39);
        Due.is("a READING ahead of its DAY", horn.left(1, 4, 0), HissHorn.HIDDEN);
        Due.is("a READING on its DAY", horn.left(1, 5, 0), 13);
        Due.is("ALIKE ahead of it", horn.alike(4, 0), 10);
        Due.is("ALIKE with it", horn.alike(5, 0), 13);
        Due.is("GOES WITH a ahead of it", horn.goes(4, 1), 0);
        Due.is("GOES WITH a with it", horn.goes(5, 1), 5);
        Due.is("COULD ahead of it", horn.could(0, 4, 0), 60);
        Due.is("COULD with it", horn.could(0, 5, 0), -1);
        Due.is("SETS ahead of it", horn.sets(4), 1);
        Due.is("SETS with it", horn.sets(5), 1);
        Due.is("FITS ahead of it", horn.fits(0, 4, 1), 50);
        Due.is("FITS with it", horn.fits(0, 5, 1), 39);
        Due.is("PRINTS ahead of it", horn.had(4, 0), 0);
        Due.is("PRINTS with it", horn.had(5, 0), 1);
        Due.is("ONE SIDE ahead of it", horn.even(4, 1), HissHorn.HIDDEN);
        Due.is("ONE SIDE with it", horn.even(5, 1), 5);
        horn.days(1);
        horn.clean(0, 70, 80, 0);
        Due.is("SPAN ahead of a CLEANING", horn.span(0, 5, 1), 50);
        Due.is("SPAN behind a CLEANING", horn.span(0, 6, 1), 80);
    }

    private static void seasonOfADay() {
        int[] days = {0, 29, 30, 59, 60, 89, 90, 119, 120};
        int[] seasons = {0, 0, 1, 1, 2, 2, 3, 3, 0};
        HissHorn horn = new HissHorn();
        Due.text(horn, 0, "y:e*100");
        horn.part(0, 1, 1, 1);
        for (int i = 0; i < days.length; i++) {
            Due.is("sum on DAY " + days[i], horn.sum(days[i], 0, 0, 0, 0, 1), seasons[i]);
        }
        for (int i = 0; i < days.length; i++) {
            Due.is("days", horn.days(days[i] - horn.count(0)), days[i]);
            Due.is("heard on DAY " + days[i], horn.heard(0, 0, 0, 0, 1, 0, 0), seasons[i]);
            Due.is("read on DAY " + days[i], horn.read(0, 0, 0, 0, 1, 0), i);
            Due.is("leans on DAY " + days[i], horn.leans(i, 0), seasons[i] * 100);
        }
        Due.is("GOES WITH all SEASONS", horn.goes(120, 3), 3);
    }

    private static void oneClauseAtLeast() {
        for (int sort = 0; sort <= 2; sort++) {
            fault(sort, "", 0);
            fault(sort, ";", 0);
            fault(sort, "y:1", -1);
            fault(sort, "y:1;", 4);
            fault(sort, "y:1;y:1", -1);
            fault(sort, "y:1;y:1;", 8);
            fault(sort, "y:1;".repeat(29) + "y:1", -1);
            fault(sort, "y:1;".repeat(29) + "y:12", -1);
            fault(sort, "y:1;".repeat(30), 120);
        }
        worth("y:d=1?1;".repeat(14) + "y:7;y:8", 7);
    }

    /** Behind a beginning: the bytes with which it is a text, those with which it can go on, and all others. */
    private static void place(int sort, String beginning, String ending, String going) {
        for (int i = 1; i <= 255; i++) {
            char sign = (char) i;
            int due = ending.indexOf(sign) >= 0 ? -1 : beginning.length();
            fault(sort, beginning + sign, going.indexOf(sign) >= 0 ? beginning.length() + 1 : due);
        }
    }

    private static void eachByteInEachPlace() {
        for (int sort = 0; sort <= 2; sort++) {
            String own = LETTERS[sort];
            String first = own.substring(0, 1);
            place(sort, "", "", "y ");
            place(sort, "y", "", ": ");
            place(sort, "y:", DIGITS + own, "[(! ");
            place(sort, "y:1", DIGITS + " ", "+-*/=<>;");
            place(sort, "y:1 ", " ", "+-*/=<>;");
            place(sort, "y:" + first, " ", "+-*/=<>;");
            place(sort, "y:1234", " ", "+-*/=<>;");
            place(sort, "y:1*", DIGITS + own, "[ ");
            place(sort, "y:1-", DIGITS + own, "[ ");
            place(sort, "y:[", "", DIGITS + own + "[ ");
            place(sort, "y:[1", "]", DIGITS + "+-*/ ");
            place(sort, "y:[1]", " ", "+-*/=<>;");
            place(sort, "y:(", "", DIGITS + own + "[(! ");
            place(sort, "y:(1", "", DIGITS + "+-*/=<> ");
            place(sort, "y:(1=1", "", DIGITS + "+-*/&|) ");
            place(sort, "y:(1=1)", "", "&|? ");
            place(sort, "y:!", "", DIGITS + own + "[(! ");
            place(sort, "y:!1", "", DIGITS + "+-*/=<> ");
            place(sort, "y:!1>2", "", DIGITS + "+-*/&|? ");
            place(sort, "y:1<", "", DIGITS + own + "[ ");
            place(sort, "y:1<2", "", DIGITS + "+-*/&|? ");
            place(sort, "y:1<2&", "", DIGITS + own + "[(! ");
            place(sort, "y:1<2|", "", DIGITS + own + "[(! ");
            place(sort, "y:1<2|1", "", DIGITS + "+-*/=<> ");
            place(sort, "y:1<2?", DIGITS + own, "[ ");
            place(sort, "y:1<2?3", DIGITS + " ", "+-*/;");
            place(sort, "y:1;", "", "y ");
        }
    }

    private static void oneToFourDigits() {
        String[] ahead = {"y:", "y:1+", "y:d*", "y:[", "y:d=", "y:!", "y:(", "y:d=1?", "y:1;y:"};
        for (String beginning : ahead) {
            int due = beginning.length() + 4;
            fault(0, beginning + "00000", due);
            fault(0, beginning + "123456", due);
            Due.is("four digits behind " + beginning, Due.fault(new HissHorn(), 0, beginning + "9999") != due - 1, true);
        }
        worth("y:1", 1);
        worth("y:12", 12);
        worth("y:123", 123);
        worth("y:9999", 9999);
        worth("y:0001", 1);
        fault(0, "y:1 2", 4);
        fault(0, "y:1234 5", 7);
    }

    /** A CLAUSE with these within one another: ( and ! first, then [. */
    private static String nested(String signs, int from) {
        if (from >= signs.length()) return "1=1";
        switch (signs.charAt(from)) {
            case '(':
                return "(" + nested(signs, from + 1) + ")";
            case '!':
                return "!" + nested(signs, from + 1);
            default:
                int deep = signs.length() - from;
                return "[".repeat(deep) + "1" + "]".repeat(deep) + "=1";
        }
    }

    private static void sixWithinOneAnother() {
        for (int outer = 0; outer <= 7; outer++) {
            for (int bits = 0; bits < 1 << outer; bits++) {
                StringBuilder signs = new StringBuilder();
                for (int i = 0; i < outer; i++) signs.append((bits >> i & 1) == 0 ? '(' : '!');
                int inner = 6 - outer;
                if (outer <= 6) fault(0, "y:" + nested(signs + "[".repeat(inner), 0) + "?1", -1);
                fault(0, "y:" + nested(signs + "[".repeat(inner + 1), 0) + "?1", 8);
            }
        }
        fault(0, "y:1=[[[[[[1]]]]]]?[[[[[[1]]]]]]", -1);
        fault(0, "y:1=1?[[[[[[[1]]]]]]]", 12);
        fault(0, "y:(1=[[[[[1]]]]])&!(1=1)&(((1=1)))?1", -1);
        fault(0, "y:(1=[[[[[[1]]]]]])?1", 10);
        fault(0, "y:[[[[[[1]]]]]]+[[[[[[1]]]]]]", -1);
        fault(0, "y:!!!!!!1=1&!!!!!!1=1?1", -1);
        fault(0, "y:!!!!!!1=[1]?1", 10);
        fault(0, "y:((((((", 8);
        fault(0, "y:(((((( ", 9);
        fault(0, "y:((((((((", 8);
    }

    private static void blanksBetweenAllNotWithinNumbers() {
        fault(0, "  y  :  !  (  a  =  12  &  d  <  [  3  ]  )  |  h  >  1  ?  1  +  2  *  3  -  4  /  5  ;  y  :  1  ", -1);
        fault(0, " ".repeat(117) + "y:1", -1);
        fault(0, "y:1" + " ".repeat(117), -1);
        fault(0, " ".repeat(120), 120);
        fault(0, "y:1 2", 4);
        fault(0, "y:1  2", 5);
        fault(0, "y:1 ;y:2", -1);
        for (char white : new char[] {9, 10, 11, 12, 13, 31, 33, 127, 160}) {
            fault(0, "y:1" + white, 3);
            fault(0, white + "y:1", 0);
            fault(0, "y:1+" + white + "1", 4);
        }
        HissHorn horn = new HissHorn();
        Due.is("a text with blanks", Due.text(horn, 0, " y : d = 15 ? [ 2 + 3 ] * 4 ; y : 9 "), 0);
        Due.is("its worth", Due.worth(horn, 0, 15, 0, 0, 0, 0, 1), 20);
        Due.is("its other worth", Due.worth(horn, 0, 14, 0, 0, 0, 0, 1), 9);
    }

    private static void theLengthIfItEndsTooEarly() {
        String text = "y:!(a=12&d<3)|[h+1]*2>w/4?0-e;y:l";
        String whole = "y:!(a=12&d<3)|[h+1]*2>w/4?0 y:!(a=12&d<3)|[h+1]*2>w/4?0-e " + text + " ";
        for (int i = 0; i <= text.length(); i++) {
            String part = text.substring(0, i);
            fault(0, part, i > 0 && whole.contains(part + " ") ? -1 : i);
        }
        fault(0, "y:1+ ", 5);
        fault(0, "y ", 2);
    }

    private static void numbersBehindEachSign() {
        worth("y:1000*1000-1", 999999);
        worth("y:1000*1000", 1000000);
        worth("y:1000*1000+1", 1000000);
        worth("y:1000*1000+1-1", 999999);
        worth("y:1+1000*1000-1", 999999);
        worth("y:1000*1001", 1000000);
        worth("y:9999*100", 999900);
        worth("y:9999*101", 1000000);
        worth("y:0-1000*1000+1", -999999);
        worth("y:0-1000*1000", -1000000);
        worth("y:0-1000*1000-1", -1000000);
        worth("y:0-1000*1000-1+1", -999999);
        worth("y:[0-1000]*1001", -1000000);
        worth("y:[0-1000]*1001+1", -999999);
        worth("y:9999*9999*9999*9999*9999*9999*9999", 1000000);
        worth("y:[0-9999*9999]*[9999*9999]", -1000000);
        worth("y:[0-9999*9999]*[0-9999*9999]", 1000000);
        worth("y:9999*9999/1000", 1000);
        worth("y:1000*1000-[0-1000*1000]", 1000000);
        worth("y:0-1000*1000-1000*1000", -1000000);
        worth("y:1000*1000+1=1000*1000?1;y:2", 1);
        worth("y:1000*1000+1>1000*1000?1;y:2", 2);
        worth("y:0-1000*1001=0-1000*1000?1;y:2", 1);
        HissHorn horn = new HissHorn();
        Due.text(horn, 1, "y:1000*1000+l");
        Due.text(horn, 1, "y:0-1000*1000-l");
        Due.is("GUESSES at both bounds", horn.next(0, 1, 0, 1), 2000000);
        Due.is("at every wave", horn.next(0, 1, 0, 0), 1);
        Due.text(horn, 2, "y:1000*1000+1-1000*1000");
        Due.text(horn, 2, "y:1000*1000-1000*1000+1");
        Due.is("a RULE at the bound", horn.say(0), -1);
        Due.is("a RULE behind the bound", horn.say(1), 0);
    }

    private static void byZeroGivesZero() {
        worth("y:7/2", 3);
        worth("y:[0-7]/2", -3);
        worth("y:7/[0-2]", -3);
        worth("y:[0-7]/[0-2]", 3);
        worth("y:1/2", 0);
        worth("y:[0-1]/2", 0);
        worth("y:1/1", 1);
        worth("y:1/0", 0);
        worth("y:0/0", 0);
        worth("y:[0-5]/0", 0);
        worth("y:9999*9999/0+3", 3);
        worth("y:5/[d-15]", 0);
        worth("y:5/0/0", 0);
        worth("y:5/0*9+1", 1);
        worth("y:1/0=0?4;y:5", 4);
        worth("y:[0-9999*9999]/[0-1]", 1000000);
    }

    private static void zeroWithoutAClause() {
        worth("y:d=14?1", 0);
        worth("y:d=14?1;y:a=8?2", 0);
        worth("y:d=14?1;y:a=9?2", 2);
        worth("y:d=15?1;y:a=9?2", 1);
        worth("y:0;y:2", 0);
        HissHorn horn = new HissHorn();
        Due.text(horn, 0, "y:d=1?100");
        horn.part(0, 5, 9, 7);
        horn.read(0, 0, 0, 0, 1, 3);
        Due.is("sum without a CLAUSE", horn.sum(0, 0, 0, 0, 0, 1), 0);
        Due.is("LEFT without a CLAUSE", horn.left(0, 0, 0), 3);
    }

    private static void shines(String law, int loudness, int want) {
        HissHorn horn = new HissHorn();
        Due.text(horn, 0, law);
        horn.part(0, loudness, loudness, loudness);
        horn.read(0, 0, 0, 0, 1, 0);
        Due.is(loudness + " shines by " + law, horn.sum(0, 0, 0, 0, 0, 1), want);
        Due.is(loudness + " is LEFT by " + law, horn.left(0, 0, 0), -want);
        horn.part(0, loudness, loudness, loudness);
        Due.is("each PART of " + loudness + " is cut by itself", horn.sum(0, 0, 0, 0, 0, 1), 2 * want);
        Due.is("each in LEFT, too", horn.left(0, 0, 1), -2 * want);
    }

    private static void shinesCut() {
        shines("y:99", 1, 0);
        shines("y:100", 1, 1);
        shines("y:199", 1, 1);
        shines("y:0-99", 1, 0);
        shines("y:0-100", 1, -1);
        shines("y:0-199", 1, -1);
        shines("y:9999", 0, 0);
        shines("y:1", 99, 0);
        shines("y:1", 100, 1);
        shines("y:1", 400, 4);
        shines("y:9999*9999", 400, 4000000);
        shines("y:0-9999*9999", 400, -4000000);
        HissHorn horn = new HissHorn();
        Due.text(horn, 0, "y:d=0?9999*9999;y:0-9999*9999");
        for (int i = 0; i < 12; i++) horn.part(0, 0, 400, 400);
        Due.is("the greatest sum", horn.sum(0, 0, 0, 0, 0, 1), 48000000);
        Due.is("the least sum", horn.sum(0, 1, 0, 0, 0, 1), -48000000);
        horn.read(0, 0, 0, 0, 1, -100000);
        horn.read(1, 0, 0, 0, 1, 100000);
        Due.is("the least LEFT", horn.left(0, 0, 0), -48100000);
        Due.is("its upper end", horn.left(0, 0, 1), -100000);
        Due.is("the greatest LEFT", horn.left(1, 0, 1), 48100000);
        Due.is("its lower end", horn.left(1, 0, 0), 100000);
        Due.is("the greatest GOES WITH", horn.goes(0, 0), 48200000);
        Due.is("the greatest EVEN", horn.even(0, 0), 48200000);
        Due.is("the widest ROW", horn.judge(0, 0), 48000000);
        horn.look(0, 0, 0, 1);
        horn.done(0);
        Due.is("the greatest NARROWS", horn.narrows(0, 0), 4000000);
    }

    private static void looked(int from, int to, int wantFrom, int wantTo) {
        HissHorn horn = new HissHorn();
        Due.text(horn, 0, "y:1");
        horn.part(0, 100, 200, 0);
        horn.look(0, from, to, 1);
        horn.done(0);
        Due.is("SPAN behind a LOOK from " + from, horn.span(0, 0, 0), wantFrom);
        Due.is("SPAN behind a LOOK to " + to, horn.span(0, 0, 1), wantTo);
    }

    private static void spanOfAPart() {
        looked(0, 99, 0, 99);
        looked(0, 100, 100, 100);
        looked(0, 101, 100, 101);
        looked(99, 99, 99, 99);
        looked(100, 100, 100, 100);
        looked(100, 200, 100, 200);
        looked(99, 201, 100, 200);
        looked(101, 199, 101, 199);
        looked(150, 150, 150, 150);
        looked(0, 400, 100, 200);
        looked(199, 400, 199, 200);
        looked(200, 400, 200, 200);
        looked(201, 400, 201, 400);
        looked(400, 400, 400, 400);
        HissHorn horn = new HissHorn();
        Due.text(horn, 0, "y:100");
        horn.part(0, 100, 200, 300);
        horn.look(0, 150, 400, 1);
        horn.clean(0, 0, 400, 0);
        horn.done(0);
        Due.is("a LOOK behind a CLEANING", horn.span(0, 0, 0), 150);
        Due.is("its end", horn.span(0, 0, 1), 400);
        Due.is("what it TRULY is by a CLEANING", horn.sum(0, 0, 0, 0, 0, 1), 0);
        horn.clean(0, 20, 20, 400);
        Due.is("a CLEANING behind a LOOK", horn.span(0, 0, 1), 20);
        Due.is("TRULY outside", horn.sum(0, 0, 0, 0, 0, 1), 400);
    }

    /** An object is used for 512 calls; the last one is answered, too. */
    private static void theLastCall() {
        HissHorn horn = new HissHorn();
        for (int i = 0; i < 511; i++) Due.is("days(0)", horn.days(0), 0);
        Due.is("the last call", horn.days(60), 60);
        HissHorn refusing = new HissHorn();
        for (int i = 0; i < 511; i++) Due.is("days(61)", refusing.days(61), -1);
        Due.is("the last call", refusing.count(0), 0);
    }
}
