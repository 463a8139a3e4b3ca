/** Promises 1, 2 and 38: a new object, DAYS and counts. */
public final class CountTest {
    public static void main(String[] args) {
        fresh();
        days();
        counts();
        Due.end();
    }

    private static void fresh() {
        HissHorn horn = new HissHorn();
        for (int i = 0; i <= 13; i++) {
            Due.is("count(" + i + ") at first", horn.count(i), 0);
        }
        Due.is("count(14)", horn.count(14), -1);
        Due.is("count(-1)", horn.count(-1), -1);
        Due.is("NONE", HissHorn.NONE, -1);
        Due.is("HIDDEN", HissHorn.HIDDEN, -100000000);
    }

    private static void days() {
        HissHorn horn = new HissHorn();
        Due.is("days(-1)", horn.days(-1), -1);
        Due.is("days(61)", horn.days(61), -1);
        Due.is("days(2147483647)", horn.days(Integer.MAX_VALUE), -1);
        Due.is("days(0)", horn.days(0), 0);
        Due.is("days(60)", horn.days(60), 60);
        Due.is("days(59)", horn.days(59), 119);
        Due.is("days(2) at 119", horn.days(2), -1);
        Due.is("NOW behind it", horn.count(0), 119);
        Due.is("days(1) at 119", horn.days(1), 120);
        Due.is("days(1) at 120", horn.days(1), -1);
        Due.is("days(0) at 120", horn.days(0), 120);
    }

    private static void counts() {
        HissHorn horn = new HissHorn();
        horn.days(7);
        Due.text(horn, 0, "y:1");
        Due.text(horn, 1, "y:1");
        Due.text(horn, 1, "y:1");
        for (int i = 0; i < 3; i++) Due.text(horn, 2, "y:1");
        for (int i = 0; i < 4; i++) horn.part(0, 0, 0, 0);
        for (int i = 0; i < 5; i++) horn.read(0, 0, 0, 0, 1, 0);
        for (int i = 0; i < 8; i++) horn.look(0, 0, 0, 1);
        for (int i = 0; i < 6; i++) horn.done(i);
        for (int i = 0; i < 9; i++) horn.clean(0, 0, 0, 0);
        for (int i = 0; i < 8; i++) horn.house();
        for (int i = 0; i < 10; i++) horn.print(0, false, 0, 0);
        for (int i = 0; i < 11; i++) horn.print(0, true, 0, 0);
        for (int i = 0; i < 12; i++) horn.letter(0, 1);
        Due.feed(horn, "y:1+2+3+4+5+6");
        int[] want = {7, 1, 2, 3, 4, 5, 8, 6, 9, 8, 10, 11, 12, 13};
        for (int i = 0; i < want.length; i++) {
            Due.is("count(" + i + ")", horn.count(i), want[i]);
        }
    }
}
