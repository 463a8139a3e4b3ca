import java.util.ArrayList;
import java.util.List;

/**
 * All that an object behind a tale can be asked, with what the model answers. It is asked by pages, each of an object
 * made anew; the last page tells more, to see what no question shows.
 */
public final class Portrait {
    private static final int MOST_CALLS = 512;
    private final Tale tale;
    private final List<List<Call>> pages = new ArrayList<>();
    private final List<long[]> wanted = new ArrayList<>();
    private final Model shape;

    public Portrait(Tale tale) {
        this.tale = tale;
        shape = tale.model();
        List<Call> questions = new ArrayList<>();
        askOfAll(questions);
        askOfDays(questions, 0);
        if (shape.count(0) > 1) askOfDays(questions, shape.count(0) / 2);
        if (shape.count(0) > 0) askOfDays(questions, shape.count(0));
        addPages(questions);
        addPage(tellMore());
    }

    /** By these questions alone, which tell nothing. */
    public Portrait(Tale tale, List<Call> questions) {
        this.tale = tale;
        shape = tale.model();
        addPages(questions);
    }

    private void addPages(List<Call> questions) {
        int room = MOST_CALLS - 1 - tale.size();
        for (int i = 0; i < questions.size(); i += room) {
            addPage(questions.subList(i, Math.min(questions.size(), i + room)));
        }
    }

    private void addPage(List<Call> page) {
        Model model = tale.model();
        long[] answers = new long[page.size()];
        for (int i = 0; i < answers.length; i++) answers[i] = page.get(i).of(model);
        pages.add(page);
        wanted.add(answers);
    }

    /** The object as it is. */
    public void check() {
        for (int i = 0; i < pages.size(); i++) checkPage(i, tale.horn(), "");
    }

    /** A call that is refused: it answers as told, and nothing has changed. */
    public void checkRefused(Call call, long want) {
        for (int i = 0; i < pages.size(); i++) {
            HissHorn horn = tale.horn();
            Due.is(call + " is refused", call.of(horn), want);
            checkPage(i, horn, " behind " + call);
        }
    }

    private void checkPage(int page, HissHorn horn, String behind) {
        for (int i = 0; i < pages.get(page).size(); i++) {
            Call call = pages.get(page).get(i);
            Due.is(call + behind, call.of(horn), wanted.get(page)[i]);
        }
    }

    private static void ask(List<Call> list, String name, Object... arguments) {
        list.add(new Call(name, arguments));
    }

    /** The first, the last and one between of so many. */
    private static List<Integer> someOf(int many) {
        List<Integer> some = new ArrayList<>();
        for (int i : new int[] {0, many / 2, many - 1}) {
            if (i >= 0 && i < many && !some.contains(i)) some.add(i);
        }
        return some;
    }

    private void askOfAll(List<Call> list) {
        for (int i = 0; i <= 13; i++) ask(list, "count", i);
        for (int i = 0; i <= 2; i++) ask(list, "fault", i);
        for (int law = 0; law < shape.count(1); law++) ask(list, "worth", law, 3, 2, 5, 1, 4, 7);
        for (int rule = 0; rule < shape.count(3); rule++) ask(list, "say", rule);
        ask(list, "sum", 0, 3, 2, 5, 4, 7);
        ask(list, "heard", 1, 2, 3, 4, 5, 50, 6L);
        ask(list, "nothing");
        ask(list, "met");
        for (int i = 0; i <= 3; i++) ask(list, "sooner", i);
        for (int reading : someOf(shape.count(5))) {
            for (int part = 0; part < shape.count(4); part++) ask(list, "leans", reading, part);
            for (int look = 0; look < shape.count(6); look++) {
                ask(list, "narrows", look, reading);
                ask(list, "judge", 1 << look, reading);
            }
            ask(list, "plan", reading, 12, 0);
            ask(list, "plan", reading, 500, 1);
        }
    }

    private void askOfDays(List<Call> list, int q) {
        ask(list, "sets", q);
        for (int what = 0; what <= 1; what++) {
            for (int part = 0; part < shape.count(4); part++) ask(list, "span", part, q, what);
            for (int part : someOf(shape.count(4))) ask(list, "could", part, q, what);
            for (int reading = 0; reading < shape.count(5); reading++) ask(list, "left", reading, q, what);
            for (int guess : someOf(shape.count(2))) {
                ask(list, "fits", guess, q, what);
                ask(list, "next", guess, 0, q, what);
            }
            ask(list, "alike", q, what);
            ask(list, "had", q, what);
            ask(list, "even", q, what);
        }
        for (int reading : someOf(shape.count(5))) ask(list, "most", reading, q);
        for (int what = 0; what <= 5; what++) ask(list, "goes", q, what);
        for (int house = 0; house < shape.count(9); house++) {
            for (int i : someOf(shape.count(10))) ask(list, "knows", house, false, i, q);
            for (int i : someOf(shape.count(11))) ask(list, "knows", house, true, i, q);
        }
    }

    private List<Call> tellMore() {
        List<Call> list = new ArrayList<>();
        ask(list, "text", 0);
        ask(list, "worth", shape.count(1), 3, 2, 5, 1, 4, 7);
        ask(list, "feed", 0x793A3131, 0, 0, 0, 0);
        ask(list, "fault", 2);
        ask(list, "part", 0, 7, 9, 8);
        ask(list, "span", shape.count(4), shape.count(0), 0);
        ask(list, "look", 0, 20, 25, 3);
        for (int i = 0; i <= shape.count(6); i++) ask(list, "done", i);
        ask(list, "clean", 0, 20, 25, 23);
        ask(list, "read", 3, 2, 5, 4, 7, 11);
        ask(list, "left", shape.count(5), shape.count(0), 0);
        ask(list, "house");
        ask(list, "print", 0, false, 5, 6);
        ask(list, "print", 0, true, 6, 7);
        ask(list, "letter", 0, 1);
        ask(list, "days", 1);
        for (int i = 0; i <= 13; i++) ask(list, "count", i);
        ask(list, "sum", 31, 3, 2, 5, 4, 7);
        ask(list, "sets", shape.count(0));
        ask(list, "nothing");
        ask(list, "met");
        return list;
    }
}
