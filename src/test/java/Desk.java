import java.util.ArrayList;
import java.util.Arrays;
import java.util.List;
import java.util.NoSuchElementException;
import java.util.function.LongSupplier;

/** A FlowDesk on which each call answers a number, also when it throws, and which is not asked more than 512 times. */
final class Desk {
    static final int MOST_CALLS = 512;
    static final long DONE = 0;
    static final long ARGUMENT = Long.MIN_VALUE;
    static final long STATE = Long.MIN_VALUE + 1;
    static final long ELEMENT = Long.MIN_VALUE + 2;
    static final long OTHER = Long.MIN_VALUE + 3;

    private static String latestName = "no call";
    private static Object[] latestArguments = {};

    private final FlowDesk desk = new FlowDesk();
    private int calls = 0;

    static String latestCall() {
        String arguments = Arrays.toString(latestArguments);
        return latestName + "(" + arguments.substring(1, arguments.length() - 1) + ")";
    }

    static String nameOf(long answer) {
        if (answer == ARGUMENT) {
            return "throws.IllegalArgumentException";
        }
        if (answer == STATE) {
            return "throws.IllegalStateException";
        }
        if (answer == ELEMENT) {
            return "throws.NoSuchElementException";
        }
        return answer == OTHER ? "throws another exception" : Long.toString(answer);
    }

    private static long codeOf(Throwable thrown) {
        if (thrown.getClass() == IllegalArgumentException.class) {
            return ARGUMENT;
        }
        if (thrown.getClass() == IllegalStateException.class) {
            return STATE;
        }
        return thrown.getClass() == NoSuchElementException.class ? ELEMENT : OTHER;
    }

    int callsLeft() {
        return MOST_CALLS - calls;
    }

    private long ask(LongSupplier call, String name, Object... arguments) {
        latestName = name;
        latestArguments = arguments;
        if (callsLeft() == 0) {
            throw new IllegalStateException("a test asks more than the document answers for");
        }
        calls++;
        try {
            return call.getAsLong();
        } catch (RuntimeException | StackOverflowError thrown) {
            return codeOf(thrown);
        }
    }

    // The face.

    long flow(boolean bool, int clock, boolean input) {
        return ask(() -> desk.flow(bool, clock, input), "flow", bool, clock, input);
    }

    long type(long bytes, int n) {
        return ask(() -> done(() -> desk.type(bytes, n)), "type", bytes, n);
    }

    long equation(int flow) {
        return ask(() -> done(() -> desk.equation(flow)), "equation", flow);
    }

    long check() {
        return ask(desk::check, "check");
    }

    long fault(int what) {
        return ask(() -> desk.fault(what), "fault", what);
    }

    long order(int k) {
        return ask(() -> desk.order(k), "order", k);
    }

    long set(int flow, int value) {
        return ask(() -> done(() -> desk.set(flow, value)), "set", flow, value);
    }

    long instants(int n) {
        return ask(() -> done(() -> desk.instants(n)), "instants", n);
    }

    long time() {
        return ask(desk::time, "time");
    }

    long present(int flow) {
        return ask(() -> desk.present(flow) ? 1 : 0, "present", flow);
    }

    long value(int flow) {
        return ask(() -> desk.value(flow), "value", flow);
    }

    long seen(int flow) {
        return ask(() -> desk.seen(flow), "seen", flow);
    }

    long flows() {
        return ask(desk::flows, "flows");
    }

    private static long done(Runnable act) {
        act.run();
        return DONE;
    }

    // What tests do again and again; each of these is due to go well.

    int boolInput(int clock) {
        return added(flow(true, clock, true));
    }

    int intInput(int clock) {
        return added(flow(false, clock, true));
    }

    int boolFlow(int clock) {
        return added(flow(true, clock, false));
    }

    int intFlow(int clock) {
        return added(flow(false, clock, false));
    }

    private static int added(long number) {
        Due.holds(latestCall() + " answered " + nameOf(number) + ", due is a number", number >= 0 && number < 12);
        return (int) number;
    }

    void write(int... bytes) {
        for (int from = 0; from < bytes.length; from += 8) {
            int n = Math.min(8, bytes.length - from);
            long packed = 0;
            for (int i = 0; i < n; i++) {
                packed = packed << 8 | bytes[from + i];
            }
            Due.is(DONE, type(packed, n));
        }
    }

    void define(int flow, int... bytes) {
        write(bytes);
        Due.is(DONE, equation(flow));
    }

    void passes() {
        Due.is(0, check());
    }

    void fails(int rule, int flow, int at) {
        Due.is(rule, check());
        Due.is(flow, fault(0));
        Due.is(at, fault(1));
    }

    void host(int flow, int value) {
        Due.is(DONE, set(flow, value));
    }

    void go(int n) {
        Due.is(DONE, instants(n));
    }

    /** Each of the calls is due to throw, and all of them to leave every answer as it was. */
    void refuses(long due, LongSupplier... wrongCalls) {
        List<Long> answers = allAnswers();
        for (LongSupplier call : wrongCalls) {
            Due.is(due, call.getAsLong());
        }
        String refused = latestCall();
        Due.holds("calls refused like " + refused + " have changed something", answers.equals(allAnswers()));
    }

    private List<Long> allAnswers() {
        List<Long> answers = new ArrayList<>(List.of(flows(), time(), fault(0), fault(1)));
        int many = answers.get(0).intValue();
        for (int k = 0; k <= many; k++) {
            answers.add(order(k));
        }
        for (int flow = 0; flow < many; flow++) {
            answers.addAll(List.of(present(flow), value(flow), seen(flow)));
        }
        return answers;
    }

    void isAtTheBeginning() {
        Due.is(0, time());
        int many = (int) flows();
        for (int flow = 0; flow < many; flow++) {
            Due.is(0, seen(flow));
            Due.is(0, present(flow));
            Due.is(ELEMENT, value(flow));
        }
    }

    void isUnchecked() {
        Due.is(STATE, order(0));
        Due.is(STATE, instants(1));
        Due.is(-1, fault(0));
        Due.is(-1, fault(1));
    }

    void values(int flow, int... due) {
        for (int value : due) {
            go(1);
            Due.is(value, value(flow));
        }
    }
}
