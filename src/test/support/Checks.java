/** What the tests share: checks that are counted, houses to check, and texts for the tape. */
public abstract class Checks {
    protected static final int NONE = -1;
    protected static final int NO_SUCH = -2;
    protected static final int MIN = Integer.MIN_VALUE;
    protected static final int MAX = Integer.MAX_VALUE;
    protected static final int MILLION = 1000000;
    private static String sentence = "";
    private static int wrong = 0;
    private static int checks = 0;

    /** The document's words that the checks behind this one hold it to. */
    protected static void about(String words) {
        sentence = words;
    }

    protected static void due(String what, long got, long want) {
        checks++;
        if (got != want) {
            wrong++;
            System.out.println((sentence.isEmpty() ? "" : "[" + sentence + "] ") + what + " answered " + got
                + ", due is " + want);
        }
    }

    protected static void yes(String what, boolean got) {
        due(what, got ? 1 : 0, 1);
    }

    protected static void no(String what, boolean got) {
        due(what, got ? 1 : 0, 0);
    }

    protected static void finish() {
        System.out.println(checks + " checks, " + wrong + " wrong");
        if (wrong != 0) {
            System.exit(1);
        }
    }

    // ---- texts ----

    private static int byteAt(String text, int i) {
        return i < text.length() ? text.charAt(i) : ' ';
    }

    private static int fourAt(String text, int i) {
        return byteAt(text, i) << 24 | byteAt(text, i + 1) << 16 | byteAt(text, i + 2) << 8 | byteAt(text, i + 3);
    }

    /** Puts the text on the empty tape. */
    protected static void write(IsHeIn x, String text) {
        for (int i = 0; i < text.length(); i += 20) {
            x.feed(fourAt(text, i), fourAt(text, i + 4), fourAt(text, i + 8), fourAt(text, i + 12),
                fourAt(text, i + 16));
        }
        x.end(text.length());
    }

    protected static int tell(IsHeIn x, int k, String text) {
        write(x, text);
        return x.text(k);
    }

    protected static void good(IsHeIn x, int k, String text, int lines) {
        due("text " + k + ": " + text, tell(x, k, text), lines);
        due("fault(0) of " + text, x.fault(0), 0);
        due("fault(1) of " + text, x.fault(1), NONE);
    }

    protected static void bad(int k, String text, int fault, int place) {
        IsHeIn x = new IsHeIn();
        due("text " + k + ": " + text, tell(x, k, text), NONE);
        due("fault(0) of " + text, x.fault(0), fault);
        due("fault(1) of " + text, x.fault(1), place);
        yes("the tape is empty after " + text, !x.end(1));
    }

    protected static String times(int n, String text) {
        return text.repeat(n);
    }

    // ---- houses ----

    /** A house with so many guests, by turns on the floors 0 to 3, of age 10 times their number. */
    protected static IsHeIn house(int guests) {
        IsHeIn x = new IsHeIn();
        for (int g = 0; g < guests; g++) {
            x.guest(g % 4, 10 * g % 100);
        }
        return x;
    }

    protected static IsHeIn house(int guests, String law) {
        IsHeIn x = house(guests);
        due("the law " + law, tell(x, 0, law) == NONE ? NONE : 0, 0);
        return x;
    }

    /** A house where all are out, and of guest g the key hangs on hooks[g] (NONE: he has it). */
    protected static IsHeIn hung(int... hooks) {
        IsHeIn x = house(hooks.length, "go 1000;come 0;carry 1000;");
        x.hours(1);
        for (int g = 0; g < hooks.length; g++) {
            if (hooks[g] != NONE) {
                yes("hang", x.hang(g, hooks[g]));
            }
        }
        return x;
    }

    // ---- draws ----

    protected static int stateAfter(int state) {
        return state * 1664525 + 1013904223;
    }

    /** What a draw of a thousand is that leaves this state. */
    protected static int drawOf(int state) {
        return (int) (Integer.toUnsignedLong(state) / 256 % 1000);
    }
}
