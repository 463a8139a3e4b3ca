import java.util.ArrayList;
import java.util.List;

/** All promises on an object that is told all that it may be told, its last DAY being NOW; held against the model. */
public final class FullTest {
    private static final int LAST = 120;
    private final List<Call> questions = new ArrayList<>();

    public static void main(String[] args) {
        FullTest test = new FullTest();
        test.askOfReadings();
        test.askOfDays();
        test.askOfHouses();
        new Portrait(States.full(), test.questions).check();
        new Portrait(States.full().then("done", 9), test.questions).check();
        Due.end();
    }

    private void ask(String name, Object... arguments) {
        questions.add(new Call(name, arguments));
    }

    private void askOfReadings() {
        for (int i = 0; i < 80; i++) {
            for (int q = 0; q <= LAST; q += 30) {
                ask("left", i, q, 0);
                ask("left", i, q, 1);
                ask("most", i, q);
            }
            ask("leans", i, i % 12);
            ask("narrows", i % 10, i);
            ask("plan", i, 500, i % 2);
            ask("judge", 0, i);
            ask("judge", 1 << 9, i);
        }
        ask("nothing");
    }

    private void askOfDays() {
        for (int q = 0; q <= LAST; q += 15) {
            for (int i = 0; i < 12; i++) {
                ask("span", i, q, i % 2);
                ask("could", i, q, i % 2);
                ask("goes", q, i % 6);
                ask("fits", i % 6, q, i % 3);
                ask("next", i % 6, 5 - i % 6, q, i % 2);
            }
            for (int what = 0; what < 2; what++) {
                ask("alike", q, what);
                ask("even", q, what);
                ask("had", q, what);
            }
            ask("sets", q);
            ask("sum", q, 3, 4, 5, 6, 7);
        }
        for (int i = 0; i < 6; i++) ask("say", i);
    }

    private void askOfHouses() {
        for (int house = 0; house < 8; house++) {
            for (int q = 0; q <= LAST; q += 20) {
                for (int i = 0; i < 40; i++) ask("knows", house, false, i, q);
                for (int i = 0; i < 20; i++) ask("knows", house, true, i, q);
            }
        }
        ask("met");
        for (int what = 0; what < 4; what++) ask("sooner", what);
    }
}
