/** Counts answers, and tells those that are not the ones due. */
final class Due {
    /** Of each test: its words are to be found among the others even when many fail. */
    private static final int MOST_TOLD = 5;

    private static int asked = 0;
    private static int wrong = 0;
    private static String test = "";
    private static int wrongOfTest = 0;

    private Due() {
    }

    /** What is told of the answers from here on: which test they belong to. */
    static void begin(String name) {
        test = name;
        wrongOfTest = 0;
    }

    /** The latest call of a desk has answered this. */
    static void is(long due, long got) {
        same(Desk.latestCall(), due, got);
    }

    static void same(String what, long due, long got) {
        asked++;
        if (due != got) {
            miss(what + " answered " + Desk.nameOf(got) + ", due is " + Desk.nameOf(due));
        }
    }

    static void holds(String what, boolean is) {
        asked++;
        if (!is) {
            miss(what);
        }
    }

    private static void miss(String what) {
        wrong++;
        wrongOfTest++;
        if (wrongOfTest <= MOST_TOLD) {
            System.out.println(test + ": " + what);
        }
    }

    static int wrongSoFar() {
        return wrong;
    }

    static void end() {
        System.out.println(asked + " answers, " + wrong + " not as due");
        if (wrong > 0 || asked == 0) {
            System.exit(1);
        }
    }
}
