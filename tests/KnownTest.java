import java.util.ArrayList;
import java.util.Collections;
import java.util.IdentityHashMap;
import java.util.List;
import java.util.Set;

/**
 * Drawn stories of many calls, without the model: what was known in q is answered alike on DAY q and on the last DAY;
 * questions and refused calls in between change nothing. Arguments: how many stories, and the first one's seed.
 */
public final class KnownTest {
    private static final int NONE = HissHorn.NONE;
    private static final int MOST_CALLS = 512;

    private final Wheel wheel;
    private final long seed;
    /** All that is told, the DAYS on which something is, and what is told up to the end of each. */
    private final List<Call> told = new ArrayList<>();
    private final List<Integer> days = new ArrayList<>();
    private final List<Tale> upTo = new ArrayList<>();
    /** Questions that are asked of one object alone. */
    private final Set<Call> disturbances = Collections.newSetFromMap(new IdentityHashMap<>());

    private KnownTest(long seed) {
        this.seed = seed;
        wheel = new Wheel(seed);
        tellTexts();
        for (int day = 0; day <= 120 && told.size() < 160; day += drawRest(day)) {
            int many = 1 + wheel.below(8);
            for (int i = 0; i < many; i++) add(drawTelling());
            upTo.add(tale(told));
            days.add(day);
        }
    }

    public static void main(String[] args) {
        int stories = args.length > 0 ? Integer.parseInt(args[0]) : 60;
        long first = args.length > 1 ? Long.parseLong(args[1]) : 1;
        for (int i = 0; i < stories; i++) {
            KnownTest test = new KnownTest(first + i);
            test.knownLater();
            test.saidLater();
            test.questionsChangeNothing();
        }
        Due.end();
    }

    private static Tale tale(List<Call> calls) {
        Tale tale = new Tale();
        for (Call call : calls) tale.then(call);
        return tale;
    }

    private void add(Call call) {
        told.add(call);
    }

    private void tellTexts() {
        int[] most = {5, 2, 3};
        for (int sort = 0; sort < most.length; sort++) {
            for (int i = 0; i < most[sort]; i++) {
                String text = sort == 0 && i == 0 ? "y:100" : wheel.text(sort);
                for (int at = 0; at < text.length(); at += 20) {
                    add(new Call("feed", (Object[]) Tale.words(text, at)));
                }
                add(new Call("text", sort));
                add(new Call("end", 0));
            }
        }
    }

    /** How many DAYS lie between what is told; the call stands at the head of the next DAY's. */
    private int drawRest(int day) {
        int rest = 1 + wheel.below(wheel.oneIn(4) ? 30 : 4);
        if (day + rest <= 120) add(new Call("days", rest));
        return rest;
    }

    private Call drawTelling() {
        int from = wheel.below(300);
        int to = from + wheel.below(100);
        switch (wheel.below(9)) {
            case 0: return new Call("part", wheel.below(3), from, to, wheel.below(401));
            case 1: case 2: {
                int d = wheel.below(2) * 8 + wheel.below(2);
                return new Call("read", d, wheel.below(10), wheel.below(24), wheel.below(10), 1 + wheel.below(40),
                    wheel.below(1200) - 200);
            }
            case 3: return new Call("look", wheel.below(4), from, to, 1 + wheel.below(9));
            case 4: return new Call("done", wheel.below(6));
            case 5: return new Call("clean", wheel.below(4), from, to, from);
            case 6: return new Call("house");
            case 7: return new Call("print", wheel.below(3), wheel.oneIn(2), from - 150, to - 150);
            default: return new Call("letter", wheel.below(4), wheel.below(4));
        }
    }

    /** All that can be asked as known in q, of what was told by then. */
    private static List<Call> questions(Tale tale, int q) {
        int[] counts = countsOf(tale.horn());
        int readings = Math.min(counts[5], 12);
        List<Call> list = new ArrayList<>();
        list.add(new Call("sets", q));
        for (int what = 0; what <= 1; what++) {
            list.add(new Call("alike", q, what));
            list.add(new Call("even", q, what));
            list.add(new Call("had", q, what));
            for (int i = 0; i < 2; i++) list.add(new Call("fits", i, q, what + 1));
            list.add(new Call("next", 0, 1, q, what));
            for (int i = 0; i <= counts[4] && i < 5; i++) {
                list.add(new Call("span", i, q, what));
                list.add(new Call("could", i, q, what));
            }
            for (int i = 0; i < readings; i++) list.add(new Call("left", i, q, what));
        }
        for (int i = 0; i < readings; i++) list.add(new Call("most", i, q));
        for (int what = 0; what <= 5; what++) list.add(new Call("goes", q, what));
        for (int house = 0; house < counts[9]; house++) {
            for (int i = 0; i < counts[10] && i < 4; i++) list.add(new Call("knows", house, false, i, q));
            for (int i = 0; i < counts[11] && i < 4; i++) list.add(new Call("knows", house, true, i, q));
        }
        int done = doneBy(tale, counts[6]);
        for (int look = 0; look < counts[6]; look++) {
            for (int i = 0; i < readings && (done >> look & 1) != 0; i++) list.add(new Call("narrows", look, i));
        }
        return list;
    }

    private static int[] countsOf(HissHorn horn) {
        int[] counts = new int[14];
        for (int i = 0; i < counts.length; i++) counts[i] = horn.count(i);
        return counts;
    }

    /** LOOKS that are DONE, as bits: those that cannot be DONE again. */
    private static int doneBy(Tale tale, int looks) {
        HissHorn horn = tale.horn();
        int bits = 0;
        for (int look = 0; look < looks; look++) {
            if (!horn.done(look)) bits |= 1 << look;
        }
        return bits;
    }

    private Tale whole() {
        return upTo.get(upTo.size() - 1);
    }

    private String story() {
        return "story of seed " + seed + ": ";
    }

    /** Each DAY's questions are asked on that DAY, and on the last one between questions as known in other q. */
    private void knownLater() {
        for (int i = 0; i < upTo.size(); i++) {
            List<Call> mixed = new ArrayList<>();
            for (Call call : questions(upTo.get(i), days.get(i))) {
                if (wheel.oneIn(3)) mixed.add(disturbance());
                mixed.add(call);
            }
            compare("on the last DAY", whole(), upTo.get(i), mixed, days.get(i));
        }
    }

    /** Two objects answer alike, but for what disturbs; each is told anew where its calls would be too many. */
    private void compare(String which, Tale one, Tale other, List<Call> questions, int q) {
        int room = MOST_CALLS - Math.max(one.size(), other.size());
        for (int i = 0; i < questions.size(); i += room) {
            HissHorn horn = one.horn();
            HissHorn due = other.horn();
            for (Call call : questions.subList(i, Math.min(questions.size(), i + room))) {
                long got = call.of(horn);
                if (!disturbances.contains(call)) Due.is(story() + call + " " + which + ", q " + q, got, call.of(due));
            }
        }
    }

    /** A question as known in another q, or one that works out what is not told. */
    private Call disturbance() {
        int q = days.get(wheel.below(days.size()));
        Call call = switch (wheel.below(8)) {
            case 0 -> new Call("alike", q, 0);
            case 1 -> new Call("span", 0, q, 0);
            case 2 -> new Call("plan", 0, 9, 0);
            case 3 -> new Call("say", 0);
            case 4 -> new Call("sooner", 3);
            case 5 -> new Call("sets", q);
            case 6 -> new Call("fits", 0, q, 0);
            default -> new Call("sum", q, 1, 2, 3, 4, 5);
        };
        disturbances.add(call);
        return call;
    }

    /** What was SAID, MET or FOR NOTHING by a DAY is so ever after; what was not, is so behind that DAY or never. */
    private void saidLater() {
        for (int i = 0; i < upTo.size(); i++) {
            HissHorn later = whole().horn();
            HissHorn then = upTo.get(i).horn();
            for (int rule = 0; rule < 3; rule++) {
                first(story() + "say(" + rule + ")", then.say(rule), later.say(rule), days.get(i));
            }
            first(story() + "met()", then.met(), later.met(), days.get(i));
            int done = doneBy(upTo.get(i), then.count(6));
            Due.is(story() + "nothing() by DAY " + days.get(i), later.nothing() & done, then.nothing());
        }
    }

    private static void first(String call, int then, int later, int day) {
        boolean sound = then == NONE ? later == NONE || later > day : then <= day && later == then;
        Due.is(call + " was " + then + " on DAY " + day + ", is " + later + ": as known", sound, true);
    }

    /** An object that is asked and told wrongly between all that it is told, and one that is not. */
    private void questionsChangeNothing() {
        Tale asked = new Tale();
        for (Call call : told.subList(0, whole().size())) {
            asked.then(call);
            if (wheel.oneIn(2)) asked.then(disturbance());
            if (wheel.oneIn(3)) asked.then(wrongTelling());
        }
        int q = days.get(days.size() - 1);
        List<Call> questions = questions(whole(), q);
        for (int i = 0; i <= 13; i++) questions.add(new Call("count", i));
        for (int i = 0; i <= 3; i++) questions.add(new Call("sooner", i));
        compare("of the one that was asked", asked, whole(), questions, q);
    }

    private Call wrongTelling() {
        return switch (wheel.below(7)) {
            case 0 -> new Call("days", 61);
            case 1 -> new Call("part", 12, 1, 2, 1);
            case 2 -> new Call("read", 0, 0, 0, 0, 0, 0);
            case 3 -> new Call("look", 0, 1, 2, 51);
            case 4 -> new Call("clean", 0, 1, 401, 1);
            case 5 -> new Call("print", 0, false, 1, 401);
            default -> new Call("letter", 0, 0);
        };
    }
}
