import java.util.NoSuchElementException;

/** What tests share: counting answers that are not the ones due, and typing rows of bytes. */
final class Due {
    static final long ILLEGAL_ARGUMENT = Long.MIN_VALUE;
    static final long ILLEGAL_STATE = Long.MIN_VALUE + 1;
    static final long NO_SUCH_ELEMENT = Long.MIN_VALUE + 2;
    static final long OTHER = Long.MIN_VALUE + 3;

    private static int asked = 0;
    private static int wrong = 0;

    private Due() {
    }

    interface Call {
        long answer();
    }

    interface Act {
        void run();
    }

    static long answer(Call call) {
        try {
            return call.answer();
        } catch (RuntimeException thrown) {
            return codeOf(thrown);
        }
    }

    static long outcome(Act act) {
        return answer(() -> {
            act.run();
            return 0;
        });
    }

    private static long codeOf(RuntimeException thrown) {
        if (thrown.getClass() == IllegalArgumentException.class) {
            return ILLEGAL_ARGUMENT;
        }
        if (thrown.getClass() == IllegalStateException.class) {
            return ILLEGAL_STATE;
        }
        return thrown.getClass() == NoSuchElementException.class ? NO_SUCH_ELEMENT : OTHER;
    }

    static void is(String what, long due, Call call) {
        same(what, due, answer(call));
    }

    static void done(String what, Act act) {
        same(what, 0, outcome(act));
    }

    static void thrown(String what, long due, Act act) {
        same(what, due, outcome(act));
    }

    static void same(String what, long due, long got) {
        asked++;
        if (due != got) {
            wrong++;
            if (wrong <= 50) {
                System.out.println(what + " answered " + name(got) + ", due is " + name(due));
            }
        }
    }

    private static String name(long answer) {
        if (answer == ILLEGAL_ARGUMENT) {
            return "throws.IllegalArgumentException";
        }
        if (answer == ILLEGAL_STATE) {
            return "throws.IllegalStateException";
        }
        if (answer == NO_SUCH_ELEMENT) {
            return "throws.NoSuchElementException";
        }
        return answer == OTHER ? "another exception" : Long.toString(answer);
    }

    static void type(FlowDesk desk, int... bytes) {
        for (int from = 0; from < bytes.length; from += 8) {
            int n = Math.min(8, bytes.length - from);
            long packed = 0;
            for (int i = 0; i < n; i++) {
                packed = packed << 8 | bytes[from + i];
            }
            desk.type(packed, n);
        }
    }

    static void define(FlowDesk desk, int flow, int... bytes) {
        type(desk, bytes);
        desk.equation(flow);
    }

    static boolean anyWrong() {
        return wrong > 0;
    }

    static void end() {
        System.out.println(asked + " answers, " + wrong + " not as due");
        if (wrong > 0 || asked == 0) {
            System.exit(1);
        }
    }
}
