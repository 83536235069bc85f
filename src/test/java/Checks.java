/** Counts answers that are not as due; a test makes one, asks it, and ends with finish(). */
final class Checks {
    static final int NONE = TakenUpCalls.NONE;
    static final int UNKNOWN = TakenUpCalls.UNKNOWN;
    static final int OUTSIDE = TakenUpCalls.OUTSIDE;
    static final int NOT = TakenUpCalls.NOT;
    static final int FULL = TakenUpCalls.FULL;

    private int asked;
    private int wrong;
    private String test = "";

    /** What is asked from now on is told with the name of this test. */
    void begin(String name) {
        test = name.isEmpty() ? "" : name + ": ";
    }

    int asked() {
        return asked;
    }

    void due(String what, long got, long want) {
        asked++;
        if (got != want) {
            wrong++;
            System.out.println(test + what + " answered " + got + ", due is " + want);
        }
    }

    void dueTrue(String what, boolean holds) {
        due(what, holds ? 1 : 0, 1);
    }

    /** A row of told(what) in order, from told(first) on. */
    void dueTold(String when, TakenUpCalls x, int first, int... wanted) {
        for (int i = 0; i < wanted.length; i++) {
            due(when + ": told(" + (first + i) + ")", x.told(first + i), wanted[i]);
        }
    }

    /** A row of call(k, what) in order, from call(k, 0) on. */
    void dueCall(String when, TakenUpCalls x, int k, int... wanted) {
        for (int what = 0; what < wanted.length; what++) {
            due(when + ": call(" + k + ", " + what + ")", x.call(k, what), wanted[what]);
        }
    }

    void finish() {
        System.out.println(asked + " answers, " + wrong + " not as due");
        if (wrong != 0 || asked == 0) {
            System.exit(1);
        }
    }

    static void feedAll(TakenUpCalls x, String text) {
        for (int i = 0; i < text.length(); i++) {
            x.feed(text.charAt(i));
        }
    }

    /** What functions() answers to the text. */
    static int tell(TakenUpCalls x, String text) {
        feedAll(x, text);
        return x.functions();
    }

    static TakenUpCalls telling(String text) {
        TakenUpCalls x = new TakenUpCalls();
        int answer = tell(x, text);
        if (answer < 1) {
            System.out.println("not functions, as they should be: " + text);
            System.exit(1);
        }
        return x;
    }
}
