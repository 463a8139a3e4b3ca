/** Promises 3 to 7: the TAPE, FAULT, texts and WORTH. */
public final class TextTest {
    private static final int THROWS = Integer.MIN_VALUE;

    public static void main(String[] args) {
        feedAndEnd();
        faultsOfSigns();
        faultsOfConditions();
        faultsOfDepth();
        texts();
        worths();
        worthsOfConditions();
        Due.end();
    }

    private static void feedAndEnd() {
        HissHorn horn = new HissHorn();
        Due.is("feed of zeroes", horn.feed(0, 0, 0, 0, 0), 0);
        Due.is("feed, highest first", horn.feed(0x793A0031, 0, 0x00002B00, 0, 0x00000032), 5);
        Due.is("fault of y:1+2", horn.fault(0), -1);
        Due.is("end(6)", horn.end(6), false);
        Due.is("end(-1)", horn.end(-1), false);
        Due.is("count behind refused ends", horn.count(13), 5);
        Due.is("end(5)", horn.end(5), true);
        Due.is("end(4)", horn.end(4), true);
        Due.is("fault of y:1+", horn.fault(0), 4);
        Due.is("end(0)", horn.end(0), true);
        for (int i = 1; i <= 6; i++) {
            Due.is("feed of twenty", horn.feed(-1, -1, -1, -1, -1), 20 * i);
        }
        Due.is("feed beyond 120", horn.feed(0, 0, 0, 0, 1), -1);
        Due.is("feed of nothing at 120", horn.feed(0, 0, 0, 0, 0), 120);
        Due.is("end(119)", horn.end(119), true);
        Due.is("feed of two at 119", horn.feed(1, 1, 0, 0, 0), -1);
        for (int i = 0; i < 5; i++) {
            int[] words = new int[5];
            words[i] = 0x01000001;
            Due.is("feed of two in one", horn.feed(words[0], words[1], words[2], words[3], words[4]), -1);
        }
        Due.is("count behind a refused feed", horn.count(13), 119);
        Due.is("feed of one at 119", horn.feed(0, 0, 1, 0, 0), 120);
        Due.is("fault of bytes of 255", horn.fault(0), 0);
        Due.fault(horn, 0, "y:12345678");
        horn.end(4);
        Due.is("what was cut off counts no more", horn.text(0), 0);
        Due.is("worth of y:12", Due.worth(horn, 0, 0, 0, 0, 0, 0, 1), 12);
        HissHorn words = new HissHorn();
        Due.is("the least and the greatest int", words.feed(Integer.MIN_VALUE, Integer.MAX_VALUE, -1, 0, 1), 10);
        Due.is("a byte in each place", words.feed(0x01000000, 0x00010000, 0x00000100, 0x00000001, 0), 14);
        Due.is("up to 100", words.feed(-1, -1, -1, -1, -1) + words.feed(-1, -1, -1, -1, -1), 34 + 54);
        words.feed(-1, -1, -1, -1, -1);
        words.feed(-1, -1, -1, -1, -1);
        words.feed(-1, -1, -1, 0, 0);
        Due.is("106 bytes and 15 more", words.feed(-1, -1, -1, 0x010101, 0), -1);
        Due.is("nothing of them came", words.count(13), 106);
        Due.is("106 bytes and 14 more", words.feed(-1, -1, -1, 0x0101, 0), 120);
        HissHorn again = new HissHorn();
        Due.feed(again, "y:1234");
        again.end(3);
        Due.feed(again, "9");
        Due.is("feed behind an end", again.count(13), 4);
        Due.is("text behind an end", again.text(0), 0);
        Due.is("worth of y:19", Due.worth(again, 0, 0, 0, 0, 0, 0, 1), 19);
        Due.fault(horn, 0, "y:1   1");
        horn.end(3);
        Due.is("nor do blanks", horn.fault(0), -1);
    }

    private static void fault(int sort, String text, int want) {
        Due.is("fault(" + sort + ") of '" + text + "'", Due.fault(new HissHorn(), sort, text), want);
    }

    private static void faultsOfSigns() {
        fault(0, "", 0);
        fault(0, "   ", 3);
        fault(0, "y", 1);
        fault(0, "y:", 2);
        fault(0, " y : 1 ", -1);
        fault(0, "x:1", 0);
        fault(0, "yy:1", 1);
        fault(0, "y:d+a-h*e/w+l", -1);
        fault(0, "y:n", 2);
        fault(1, "y:l*a", -1);
        fault(1, "y:d", 2);
        fault(2, "y:n+g+b+k+t", -1);
        fault(2, "y:l", 2);
        fault(0, "y:9999", -1);
        fault(0, "y:0000", -1);
        fault(0, "y:00000", 6);
        fault(0, "y:12 34", 5);
        fault(0, "y:1a", 3);
        fault(0, "y:-1", 2);
        fault(0, "y:1+-1", 4);
        fault(0, "y:1++", 4);
        fault(0, "y:1;", 4);
        fault(0, "y:1;;", 4);
        fault(0, "y:1; y:2 ;y:3", -1);
        fault(0, "y:1;x:2", 4);
        fault(0, "y:1\t", 3);
        fault(0, "y:[1", 4);
        fault(0, "y:[1]]", 5);
        fault(0, "y:[]", 3);
        fault(0, "y:[1]2", 5);
        fault(0, "y:1" + (char) 185, 3);
        fault(0, "y:" + (char) 185, 2);
        Due.is("fault(-1)", new HissHorn().fault(-1), -2);
        Due.is("fault(3)", new HissHorn().fault(3), -2);
    }

    private static void faultsOfConditions() {
        fault(0, "y:a?1", 3);
        fault(0, "y:a=1", 5);
        fault(0, "y:a=1?1", -1);
        fault(0, "y:a=1=1", 5);
        fault(0, "y:a=1?1?1", 7);
        fault(0, "y:a=1?1=1", 7);
        fault(0, "y:a=1&1?1", 7);
        fault(0, "y:a=1|d>2&h<3?1", -1);
        fault(0, "y:a&a=1?1", 3);
        fault(0, "y:(a=1)?1", -1);
        fault(0, "y:(a=1)", 7);
        fault(0, "y:(a)", 4);
        fault(0, "y:(a=1)+1", 7);
        fault(0, "y:(a=1)=1", 7);
        fault(0, "y:(a=1?1", 6);
        fault(0, "y:1+(a=1)?1", 4);
        fault(0, "y:[a=1]?1", 4);
        fault(0, "y:!a=1?1", -1);
        fault(0, "y:!a", 4);
        fault(0, "y:!1;", 4);
        fault(0, "y:!(a=1|!d=2)&a<3?1", -1);
        fault(0, "y:a=!1", 4);
        fault(0, "y:a=1?!1", 6);
        fault(0, "y:a=1?(1)", 6);
        fault(0, "y:a=1)", 5);
        fault(0, "y:a<=1", 4);
        fault(0, "y:d = a & h = 1 ? 2 ; y : 3", -1);
    }

    private static void faultsOfDepth() {
        fault(0, "y:[[[[[[1]]]]]]", -1);
        fault(0, "y:[[[[[[[1]]]]]]]", 8);
        fault(0, "y:((((((a=1))))))?1", -1);
        fault(0, "y:(((((((a=1)))))))?1", 8);
        fault(0, "y:!!!!!!a=1?1", -1);
        fault(0, "y:!!!!!!!a=1?1", 8);
        fault(0, "y:!!!!!![a]=1?1", 8);
        fault(0, "y:!(!(!(a=1)))?1", -1);
        fault(0, "y:!(!(!(a=[1])))?1", 10);
        fault(0, "y:!(!(![a]=1))?1", -1);
        fault(0, "y:!a=1&!a=1&!a=1&!a=1&!a=1&!a=1&!a=1&!a=1?1", -1);
        fault(0, "y:!a=1?[[[[[[1]]]]]]", -1);
        fault(0, "y:[1]+[1]+[1]+[1]+[1]+[1]+[1]+[1]", -1);
        fault(0, "y:!!!!!!", 8);
    }

    private static void texts() {
        HissHorn horn = new HissHorn();
        int[] most = {12, 6, 6};
        for (int sort = 0; sort < 3; sort++) {
            for (int i = 0; i < most[sort]; i++) {
                Due.is("text(" + sort + ")", Due.text(horn, sort, "y:1"), i);
                Due.is("TAPE behind a text", horn.count(13), 0);
            }
            Due.is("text(" + sort + ") beyond its number", Due.text(horn, sort, "y:1"), -1);
            Due.is("TAPE behind a refused text", horn.count(13), 3);
            Due.is("fault with all told", horn.fault(sort), -1);
            Due.is("count of texts", horn.count(sort + 1), most[sort]);
        }
        HissHorn other = new HissHorn();
        Due.is("text(-1)", Due.text(other, -1, "y:1"), -1);
        Due.is("text(3)", other.text(3), -1);
        Due.is("TAPE behind no such sort", other.count(13), 3);
        Due.is("text with a FAULT", Due.text(other, 0, "y:"), -1);
        Due.is("TAPE behind a FAULT", other.count(13), 2);
        Due.is("text of an empty TAPE", Due.text(other, 0, ""), -1);
    }

    private static void worth(String law, int want) {
        HissHorn horn = new HissHorn();
        Due.is("text of " + law, Due.text(horn, 0, law), 0);
        Due.is("worth of " + law, Due.worth(horn, 0, 15, 9, 23, 3, 7, 40), want);
    }

    private static void worths() {
        worth("y:d", 15);
        worth("y:a", 9);
        worth("y:h", 23);
        worth("y:e", 3);
        worth("y:w", 7);
        worth("y:l", 40);
        worth("y:0012", 12);
        worth("y:2+3*4", 14);
        worth("y:[2+3]*4", 20);
        worth("y:20-3-4", 13);
        worth("y:20-[3-4]", 21);
        worth("y:100/7/2", 7);
        worth("y:100/7*2", 28);
        worth("y:[0-7]/2", -3);
        worth("y:7/[0-2]", -3);
        worth("y:5/0", 0);
        worth("y:5/[d-15]+1", 1);
        worth("y:9999*9999", 1000000);
        worth("y:9999*9999-1", 999999);
        worth("y:9999*9999+1-1", 999999);
        worth("y:0-9999*9999", -1000000);
        worth("y:0-9999*9999-1", -1000000);
        worth("y:9999*9999/100", 10000);
        worth("y:1;y:2", 1);
        HissHorn horn = new HissHorn();
        Due.is("worth of no LAW", Due.worth(horn, 0, 0, 0, 0, 0, 0, 1), THROWS);
        Due.text(horn, 0, "y:7");
        int[] greatest = {0, 15, 9, 23, 3, 9, 40};
        for (int i = 0; i < 7; i++) {
            int[] at = {0, 0, 0, 0, 0, 0, 1};
            at[i] = greatest[i];
            Due.is("worth at an edge", Due.worth(horn, at[0], at[1], at[2], at[3], at[4], at[5], at[6]), 7);
            at[i] = greatest[i] + 1;
            Due.is("worth above an edge", Due.worth(horn, at[0], at[1], at[2], at[3], at[4], at[5], at[6]), THROWS);
            at[i] = i == 6 ? 0 : -1;
            Due.is("worth below an edge", Due.worth(horn, at[0], at[1], at[2], at[3], at[4], at[5], at[6]), THROWS);
        }
    }

    private static void worthsOfConditions() {
        worth("y:d=15?1;y:2", 1);
        worth("y:d<15?1;y:2", 2);
        worth("y:d>15?1", 0);
        worth("y:d=14?1;y:a=9?3;y:2", 3);
        worth("y:!d=14?1;y:2", 1);
        worth("y:!!d=14?1;y:2", 2);
        worth("y:!d=14&a=1?1;y:2", 2);
        worth("y:!(d=14&a=1)?1;y:2", 1);
        worth("y:d=15|d=14&a=1?1;y:2", 1);
        worth("y:(d=15|d=14)&a=1?1;y:2", 2);
        worth("y:a+1=10?a*2", 18);
        worth("y:d=1|d=2?1;y:2", 2);
        worth("y:d=1|d=15?1;y:2", 1);
        worth("y:d=15|d=1?1;y:2", 1);
        worth("y:d=15&a=9?1;y:2", 1);
        worth("y:!(d=15&a=9)?1;y:2", 2);
        worth("y:!(d=15|a=9)?1;y:2", 2);
        worth("y:!(d=1|a=1)?1;y:2", 1);
        worth("y:!d=15?1;y:2", 2);
        worth("y:!!d=15?1;y:2", 1);
        worth("y:!d>14?1;y:2", 2);
        worth("y:!d>15?1;y:2", 1);
        worth("y:!d<15?1;y:2", 1);
        worth("y:!d<16?1;y:2", 2);
        worth("y:1+1+1+1+1+1+1+1+1+1+1+1+1+1+1+1+1+1+1+1+1+1+1+1+1+1+1+1+1+1+1+1+1+1+1+1+1+1+1+1+1+1+1+1", 44);
        worth("y:d=1?5;y:7;y:9", 7);
    }
}
