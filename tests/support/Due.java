/** Counts the answers that are not as due. */
public final class Due {
    private static int wrong = 0;

    private Due() {
    }

    public static void is(String call, long got, long want) {
        if (got != want) {
            wrong++;
            System.out.println(call + " answered " + got + ", due is " + want);
        }
    }

    public static void is(String call, boolean got, boolean want) {
        is(call, got ? 1 : 0, want ? 1 : 0);
    }

    /** Ends the test: exit code 1 if an answer was wrong. */
    public static void end() {
        System.out.println(wrong == 0 ? "all answers are as due" : wrong + " answers are not as due");
        if (wrong != 0) {
            System.exit(1);
        }
    }

    /** Puts a text on the TAPE, behind what stands there. */
    public static void feed(HissHorn horn, String text) {
        for (int i = 0; i < text.length(); i += 20) {
            new Call("feed", (Object[]) Tale.words(text, i)).of(horn);
        }
    }

    /** The number of a text of a sort that is told anew. */
    public static int text(HissHorn horn, int sort, String text) {
        horn.end(0);
        feed(horn, text);
        return horn.text(sort);
    }

    /** The FAULT of a text that is put on an empty TAPE. */
    public static int fault(HissHorn horn, int sort, String text) {
        horn.end(0);
        feed(horn, text);
        return horn.fault(sort);
    }

    /** WORTH of a LAW, or the least int if it throws what the document names. */
    public static int worth(HissHorn horn, int law, int d, int a, int h, int e, int w, int l) {
        try {
            return horn.worth(law, d, a, h, e, w, l);
        } catch (java.util.NoSuchElementException none) {
            return Integer.MIN_VALUE;
        }
    }
}
