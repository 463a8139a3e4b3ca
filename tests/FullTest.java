/** All promises on an object that is told all that it may be told, its last DAY being NOW; held against the model. */
public final class FullTest {
    private static final int LAST = 120;
    private final HissHorn horn = new HissHorn();
    private final Model model = new Model();
    private final Wheel wheel = new Wheel(5);

    public static void main(String[] args) {
        FullTest test = new FullTest();
        test.tell();
        test.refuse();
        test.askOfReadings();
        test.askOfDays();
        test.askOfHouses();
        Due.end();
    }

    private void texts(int sort, int many, String... texts) {
        for (int i = 0; i < many; i++) {
            String text = texts[i % texts.length] + "+" + i;
            Due.is("text " + text, Due.text(horn, sort, text), i);
            model.end(0);
            for (int j = 0; j < text.length(); j++) {
                model.feed(text.charAt(j), 0, 0, 0, 0);
            }
            model.text(sort);
        }
    }

    private void tell() {
        texts(0, 12, "y:100-d*3", "y:d<8&!a=3?e*20", "y:[w+1]*[l+h]/3", "y:0-h*2-a");
        texts(1, 6, "y:l*a", "y:a*a-l*[l-20]", "y:5000-a*100");
        texts(2, 6, "y:n-80", "y:t>110&g>0?1;y:0", "y:k*[b+1]-k");
        for (int i = 0; i < 12; i++) {
            Due.is("part", horn.part(i, i * 10, 200 + i, 300), model.part(i, i * 10, 200 + i, 300));
        }
        for (int i = 0; i < 10; i++) {
            Due.is("look", horn.look(i, i * 20, 250 - i, 1 + i), model.look(i, i * 20, 250 - i, 1 + i));
        }
        for (int i = 0; i < 8; i++) {
            Due.is("house", horn.house(), model.house());
        }
        for (int i = 0; i < 80; i++) {
            tellOne(i);
            if (i % 2 == 1) {
                Due.is("days", horn.days(3), model.days(3));
            }
        }
    }

    private void tellOne(int i) {
        int d = wheel.below(16);
        int l = 1 + wheel.below(40);
        Due.is("read", horn.read(d, i % 10, i % 24, i % 7, l, i * 20), model.read(d, i % 10, i % 24, i % 7, l, i * 20));
        if (i % 8 == 0) {
            Due.is("done", horn.done(i / 8), model.done(i / 8));
        }
        if (i % 4 == 0) {
            Due.is("clean", horn.clean(i % 12, i, 3 * i, 100), model.clean(i % 12, i, 3 * i, 100));
        }
        int house = wheel.below(8);
        if (i % 2 == 0) {
            Due.is("print", horn.print(house, false, i, i + 1), model.print(house, false, i, i + 1));
        } else if (i % 4 == 1) {
            Due.is("foretell", horn.print(house, true, i, i), model.print(house, true, i, i));
        }
        if (i >= 20) {
            int to = (house + 1 + wheel.below(7)) % 8;
            Due.is("letter", horn.letter(house, to), model.letter(house, to));
        }
    }

    private void refuse() {
        Due.is("days", horn.days(1), -1);
        Due.is("part", horn.part(0, 0, 0, 0), -1);
        Due.is("read", horn.read(0, 0, 0, 0, 1, 0), -1);
        Due.is("look", horn.look(0, 0, 0, 1), -1);
        Due.is("done", horn.done(9), false);
        Due.is("clean", horn.clean(0, 0, 0, 0), false);
        Due.is("house", horn.house(), -1);
        Due.is("print", horn.print(0, false, 0, 0), -1);
        Due.is("foretell", horn.print(0, true, 0, 0), -1);
        Due.is("letter", horn.letter(0, 1), false);
        int[] full = {LAST, 12, 6, 6, 12, 80, 10, 10, 20, 8, 40, 20, 60, 0};
        for (int i = 0; i < full.length; i++) {
            Due.is("count(" + i + ")", horn.count(i), full[i]);
        }
    }

    private void askOfReadings() {
        for (int i = 0; i < 80; i++) {
            for (int q = 0; q <= LAST; q += 30) {
                Due.is("left from", horn.left(i, q, 0), model.left(i, q, 0));
                Due.is("left to", horn.left(i, q, 1), model.left(i, q, 1));
                Due.is("most", horn.most(i, q), model.most(i, q));
            }
            Due.is("leans", horn.leans(i, i % 12), model.leans(i, i % 12));
            Due.is("narrows", horn.narrows(i % 10, i), model.narrows(i % 10, i));
            Due.is("plan", horn.plan(i, 500, 1), model.plan(i, 500, 1));
            Due.is("judge", horn.judge(0, i), model.judge(0, i));
        }
        Due.is("nothing", horn.nothing(), model.nothing());
    }

    private void askOfDays() {
        for (int q = 0; q <= LAST; q += 15) {
            for (int i = 0; i < 12; i++) {
                Due.is("span", horn.span(i, q, i % 2), model.span(i, q, i % 2));
                Due.is("could", horn.could(i, q, i % 2), model.could(i, q, i % 2));
                Due.is("goes", horn.goes(q, i % 6), model.goes(q, i % 6));
                Due.is("fits", horn.fits(i % 6, q, i % 3), model.fits(i % 6, q, i % 3));
                Due.is("next", horn.next(i % 6, 5 - i % 6, q, i % 2), model.next(i % 6, 5 - i % 6, q, i % 2));
            }
            for (int what = 0; what < 2; what++) {
                Due.is("alike", horn.alike(q, what), model.alike(q, what));
                Due.is("even", horn.even(q, what), model.even(q, what));
                Due.is("had", horn.had(q, what), model.had(q, what));
            }
            Due.is("sets", horn.sets(q), model.sets(q));
            Due.is("sum", horn.sum(q, 3, 4, 5, 6, 7), model.sum(q, 3, 4, 5, 6, 7));
        }
        for (int i = 0; i < 6; i++) {
            Due.is("say", horn.say(i), model.say(i));
        }
    }

    private void askOfHouses() {
        for (int house = 0; house < 8; house++) {
            for (int q = 0; q <= LAST; q += 20) {
                for (int i = 0; i < 40; i++) {
                    Due.is("knows", horn.knows(house, false, i, q), model.knows(house, false, i, q));
                    Due.is("knows paper", horn.knows(house, true, i, q), model.knows(house, true, i, q));
                }
            }
        }
        Due.is("met", horn.met(), model.met());
        for (int what = 0; what < 4; what++) {
            Due.is("sooner", horn.sooner(what), model.sooner(what));
        }
    }
}
