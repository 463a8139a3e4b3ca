import java.util.ArrayList;
import java.util.List;

/** Calls in a row that make a state; told anew to each object, as each is used for at most 512 calls. */
public final class Tale {
    private final List<Call> calls = new ArrayList<>();

    public Tale then(String name, Object... arguments) {
        calls.add(new Call(name, arguments));
        return this;
    }

    public Tale then(Call call) {
        calls.add(call);
        return this;
    }

    /** The same call so many times. */
    public Tale times(int many, String name, Object... arguments) {
        for (int i = 0; i < many; i++) then(name, arguments);
        return this;
    }

    /** Twenty bytes of a text from a place on, or what there is of them, as feed() takes them. */
    public static Integer[] words(String text, int from) {
        Integer[] words = {0, 0, 0, 0, 0};
        for (int i = 0; i < 20 && from + i < text.length(); i++) {
            words[i / 4] |= text.charAt(from + i) << 24 - i % 4 * 8;
        }
        return words;
    }

    /** Puts a text on the TAPE, behind what stands there. */
    public Tale tape(String text) {
        for (int i = 0; i < text.length(); i += 20) then("feed", (Object[]) words(text, i));
        return this;
    }

    public Tale text(int sort, String text) {
        return tape(text).then("text", sort);
    }

    public int size() {
        return calls.size();
    }

    public HissHorn horn() {
        HissHorn horn = new HissHorn();
        for (Call call : calls) call.of(horn);
        return horn;
    }

    public Model model() {
        Model model = new Model();
        for (Call call : calls) call.of(model);
        return model;
    }
}
