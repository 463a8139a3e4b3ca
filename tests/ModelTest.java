import java.util.Arrays;
import java.util.HashMap;
import java.util.Map;

/**
 * All promises: drawn runs of calls, each answered by HissHorn as by the naive model. Arguments: how many runs, and
 * the first run's seed.
 */
public final class ModelTest {
    private static final String[] TELLING = {"days", "text", "text", "part", "read", "read", "read", "look", "done",
        "clean", "house", "print", "print", "letter"};
    private static final String[] OTHERS = {"fault", "worth", "span", "sum", "heard", "left", "most", "alike", "goes",
        "could", "sets", "narrows", "nothing", "plan", "judge", "leans", "fits", "next", "had", "knows", "met",
        "sooner", "even", "say", "count"};

    private final Wheel wheel;
    private final HissHorn horn = new HissHorn();
    private final Model model = new Model();
    private final long seed;
    /** How loud the run is, how long its rests are, and what it tells most. */
    private final int loud;
    private final int rest;
    private final int[] bias = new int[TELLING.length];
    /** An honest run reads about what its PARTS truly shine, so that little is LEFT over. */
    private final boolean honest;
    private final int about;
    private int calls = 0;

    private ModelTest(long seed) {
        this.seed = seed;
        wheel = new Wheel(seed);
        loud = wheel.oneIn(3) ? 100000 : wheel.oneIn(2) ? 300 : 20;
        rest = wheel.oneIn(2) ? 3 : 12;
        honest = wheel.oneIn(2);
        about = 1 + wheel.below(30);
        for (int i = 0; i < bias.length; i++) bias[i] = 1 + wheel.below(6);
        for (int i = 4; honest && i < 7; i++) bias[i] = wheel.oneIn(3) ? 1 : 0;
    }

    public static void main(String[] args) {
        int runs = args.length > 0 ? Integer.parseInt(args[0]) : 150;
        long first = args.length > 1 ? Long.parseLong(args[1]) : 1;
        Map<String, Integer> answers = new HashMap<>();
        for (int i = 0; i < runs; i++) new ModelTest(first + i).go(answers);
        if (args.length > 2) answers.forEach((name, n) -> System.out.println(name + " " + n));
        Due.end();
    }

    private void go(Map<String, Integer> answers) {
        while (calls < 500) {
            String name = draw();
            if (name.equals("text") || name.equals("fault")) putText();
            Call call = new Call(name, arguments(name));
            long want = call.of(model);
            long got = call.of(horn);
            answers.merge(name + (want == -1 || want == -100000000 || want == -2 ? " refused" : " told"), 1,
                Integer::sum);
            calls++;
            if (got != want) {
                Due.is("run of seed " + seed + ", call " + calls + ": " + call, got, want);
                return;
            }
        }
    }

    private String draw() {
        if (wheel.below(5) < 3) return OTHERS[wheel.below(OTHERS.length)];
        int all = Arrays.stream(bias).sum();
        int at = wheel.below(all);
        for (int i = 0; i < bias.length; i++) {
            at -= bias[i];
            if (at < 0) return TELLING[i];
        }
        return TELLING[0];
    }

    /** A text on the TAPE of both, sometimes behind what stands there. */
    private void putText() {
        if (!wheel.oneIn(10)) both("end", 0);
        int sort = wheel.below(3);
        String text = wheel.oneIn(3) ? wheel.spoilt(sort) : wheel.text(sort);
        for (int i = 0; i < text.length(); i += 20) {
            both("feed", (Object[]) Tale.words(text, i));
        }
        if (wheel.oneIn(10)) both("end", wheel.of(0, text.length()));
    }

    private void both(String name, Object... arguments) {
        Call call = new Call(name, arguments);
        calls++;
        Due.is("run of seed " + seed + ": " + call, call.of(horn), call.of(model));
    }

    private int law() {
        return wheel.of(0, model.count(1) - 1);
    }

    private int guess() {
        return wheel.of(0, model.count(2) - 1);
    }

    private int part() {
        return wheel.of(0, model.count(4) - 1);
    }

    private int reading() {
        return wheel.of(0, model.count(5) - 1);
    }

    private int look() {
        return wheel.of(0, model.count(6) - 1);
    }

    private int openLooks() {
        int bits = 0;
        for (int i = 0; i < model.count(6); i++) {
            if (wheel.oneIn(2) && model.judge(1 << i, 0) != -2) bits |= 1 << i;
        }
        return bits;
    }

    private int house() {
        return wheel.of(0, model.count(9) - 1);
    }

    private int day() {
        return wheel.oneIn(2) ? model.count(0) : wheel.of(0, model.count(0));
    }

    private int number() {
        return wheel.oneIn(2) ? wheel.of(-loud, loud) : wheel.of(-30, 30);
    }

    private int honestNumber(Object[] aim) {
        int sum = (int) new Call("sum", with(list(model.count(0)), aim)).of(model);
        return sum - about + wheel.below(2 * about + 1);
    }

    private int[] span(int least, int greatest) {
        int from = wheel.of(least, greatest);
        int to = wheel.oneIn(10) ? wheel.of(least, greatest) : Math.min(greatest, from + wheel.below(40));
        return new int[] {from, to};
    }

    private Object[] aim(Object... ahead) {
        Object[] all = Arrays.copyOf(ahead, ahead.length + 5);
        all[ahead.length] = wheel.oneIn(2) ? wheel.of(0, 15) : wheel.below(2) * 8 + wheel.below(2);
        all[ahead.length + 1] = wheel.of(0, 9);
        all[ahead.length + 2] = wheel.of(0, 23);
        all[ahead.length + 3] = wheel.of(0, 9);
        all[ahead.length + 4] = wheel.of(1, 40);
        return all;
    }

    private static Object[] with(Object[] some, Object... more) {
        Object[] all = Arrays.copyOf(some, some.length + more.length);
        System.arraycopy(more, 0, all, some.length, more.length);
        return all;
    }

    private static Object[] list(Object... some) {
        return some;
    }

    private Object[] arguments(String name) {
        switch (name) {
            case "days": return list(wheel.oneIn(12) ? wheel.of(0, 60) : wheel.below(rest));
            case "fault": case "text": return list(wheel.of(0, 2));
            case "worth": {
                Object[] aim = aim();
                return list(law(), aim[0], aim[1], aim[2], wheel.of(0, 3), aim[3], aim[4]);
            }
            case "part": case "clean": {
                int[] span = span(0, 400);
                int within = honest && !wheel.oneIn(6) ? span[0] + (span[1] - span[0]) / 2 : wheel.of(0, 400);
                return list(name.equals("part") ? law() : part(), span[0], span[1], within);
            }
            case "span": case "could": return list(part(), day(), wheel.of(0, 1));
            case "sum": return aim(wheel.of(0, 120));
            case "heard": return with(aim(), wheel.of(0, 50), wheel.seed());
            case "read": {
                Object[] aim = aim();
                return with(aim, honest ? honestNumber(aim) : number());
            }
            case "left": return list(reading(), day(), wheel.of(0, 1));
            case "most": return list(reading(), day());
            case "alike": case "had": case "even": return list(day(), wheel.of(0, 1));
            case "goes": return list(day(), wheel.of(0, 5));
            case "sets": return list(day());
            case "look": {
                int[] span = span(0, 400);
                return list(part(), span[0], span[1], wheel.oneIn(2) ? wheel.of(1, 4) : wheel.of(1, 50));
            }
            case "done": return list(look());
            case "narrows": return list(look(), reading());
            case "plan": return list(reading(), wheel.oneIn(2) ? wheel.of(0, 12) : wheel.of(0, 500), wheel.of(0, 1));
            case "judge": return list(wheel.oneIn(2) ? wheel.of(0, (1 << model.count(6)) - 1) : openLooks(), reading());
            case "leans": return list(reading(), part());
            case "fits": return list(guess(), day(), wheel.of(0, 2));
            case "next": return list(guess(), guess(), day(), wheel.of(0, 1));
            case "print": {
                int[] span = span(-400, 400);
                return list(house(), wheel.oneIn(2), span[0], span[1]);
            }
            case "letter": return list(house(), house());
            case "knows": {
                boolean paper = wheel.oneIn(2);
                return list(house(), paper, wheel.of(0, model.count(paper ? 11 : 10) - 1), day());
            }
            case "sooner": return list(wheel.of(0, 3));
            case "say": return list(wheel.of(0, model.count(3) - 1));
            case "count": return list(wheel.of(0, 13));
            default: return list();
        }
    }
}
