import java.util.Arrays;
import java.util.NoSuchElementException;

/** Synchronous flows: inputs and equations, checked, and then run instant by instant. */
public final class FlowDesk {
    private static final int MOST_FLOWS = 12;
    private static final int MOST_BYTES = 40;
    private static final int MOST_AROUND = 10;
    private static final int MOST_TYPED = 8;
    private static final int MOST_INSTANTS = 50;
    private static final int MOST_CLOCKS = 1 + 2 * MOST_FLOWS;

    private static final int NUMBER = 0;
    private static final int TRUE = 1;
    private static final int FALSE = 2;
    private static final int FLOW = 3;
    private static final int NOT = 4;
    private static final int MINUS = 5;
    private static final int ADD = 6;
    private static final int SUBTRACT = 7;
    private static final int MULTIPLY = 8;
    private static final int LESS = 9;
    private static final int EQUAL = 10;
    private static final int AND = 11;
    private static final int OR = 12;
    private static final int IF = 13;
    private static final int BEFORE = 14;
    private static final int FIRST = 15;
    private static final int WHEN = 16;
    private static final int UNLESS = 17;
    private static final int MERGE = 18;

    private static final int INT = 0;
    private static final int BOOL = 1;
    /** In the tables of types: the type that the whole must be. */
    private static final int SAME = 2;

    /** For each kind: its own bytes, behind which its first part begins. */
    private static final int[] HEAD = {2, 1, 1, 2, 1, 1, 1, 1, 1, 1, 1, 1, 1, 1, 1, 1, 2, 2, 2};
    /** For each kind: how many parts it has. */
    private static final int[] PARTS = {0, 0, 0, 0, 1, 1, 2, 2, 2, 2, 2, 2, 2, 3, 1, 2, 1, 1, 2};
    /** For each kind: the type that it is of (FLOW's is that of its flow, and looked up there). */
    private static final int[] RESULT = {
        INT, BOOL, BOOL, SAME, BOOL, INT, INT, INT, INT, BOOL, BOOL, BOOL, BOOL, SAME, SAME, SAME, SAME, SAME, SAME
    };
    /** For each kind: the type that its parts must be of (IF's first part is the one exception). */
    private static final int[] PART_TYPE = {
        SAME, SAME, SAME, SAME, BOOL, INT, INT, INT, INT, INT, INT, BOOL, BOOL, SAME, SAME, SAME, SAME, SAME, SAME
    };

    private static final int UNDEFINED = 1;
    private static final int TYPES = 2;
    private static final int CLOCKS = 3;
    private static final int BEGINNINGS = 4;
    private static final int WAITING = 5;

    private static final int NONE = -1;

    private final Network network;
    private final Waiting waiting;
    private final Checker checker;
    private final Clockwork clockwork;
    private Expression draft;

    public FlowDesk() {
        network = new Network();
        waiting = new Waiting(network);
        checker = new Checker(network, waiting);
        clockwork = new Clockwork(network, waiting);
        draft = new Expression();
    }

    public int flow(boolean bool, int clock, boolean input) throws IllegalArgumentException, IllegalStateException {
        if (!network.isClock(clock)) {
            throw new IllegalArgumentException("no such clock");
        }
        if (network.count >= MOST_FLOWS) {
            throw new IllegalStateException("no more flows");
        }
        int number = network.append(bool, clock, input);
        beginUnchecked();
        return number;
    }

    public void type(long bytes, int n) throws IllegalArgumentException, IllegalStateException {
        if (n < 1 || n > MOST_TYPED) {
            throw new IllegalArgumentException("not 1 to 8 bytes");
        }
        if (draft.length + n > MOST_BYTES) {
            throw new IllegalStateException("the draft would be too long");
        }
        for (int left = n - 1; left >= 0; left--) {
            draft.append((int) (bytes >>> (8 * left)) & 255);
        }
    }

    public void equation(int flow) throws IllegalArgumentException {
        boolean fits = network.has(flow) && !network.rows[flow].input && draft.isWellFormed(network.count);
        if (!fits) {
            draft.length = 0;
            throw new IllegalArgumentException("no flow for an equation, or a malformed one");
        }
        // The rows of the old equation serve as the next draft, so that no call makes new ones.
        Expression old = network.rows[flow].expression;
        network.rows[flow].expression = draft;
        draft = old;
        draft.length = 0;
        beginUnchecked();
    }

    public int check() {
        clockwork.restart();
        return checker.examine();
    }

    public int fault(int what) throws IllegalArgumentException {
        if (what != 0 && what != 1) {
            throw new IllegalArgumentException("no such part of a fault");
        }
        return what == 0 ? checker.faultFlow : checker.faultByte;
    }

    public int order(int k) throws IllegalStateException, NoSuchElementException {
        if (!checker.passed) {
            throw new IllegalStateException("not checked, or the check failed");
        }
        if (k < 0 || k >= waiting.ordered) {
            throw new NoSuchElementException("no flow comes there");
        }
        return waiting.order[k];
    }

    public void set(int flow, int value) throws IllegalArgumentException {
        if (!network.has(flow) || !network.rows[flow].input) {
            throw new IllegalArgumentException("no such input");
        }
        Flow row = network.rows[flow];
        row.host = row.bool && value != 0 ? 1 : value;
    }

    public void instants(int n) throws IllegalArgumentException, IllegalStateException {
        if (n < 1 || n > MOST_INSTANTS) {
            throw new IllegalArgumentException("not 1 to 50 instants");
        }
        if (!checker.passed) {
            throw new IllegalStateException("not checked, or the check failed");
        }
        for (int done = 0; done < n; done++) {
            clockwork.step();
        }
    }

    public int time() {
        return clockwork.counts[0];
    }

    public boolean present(int flow) throws IllegalArgumentException {
        if (!network.has(flow)) {
            throw new IllegalArgumentException("no such flow");
        }
        return network.rows[flow].isPresent;
    }

    public int value(int flow) throws IllegalArgumentException, NoSuchElementException {
        if (!network.has(flow)) {
            throw new IllegalArgumentException("no such flow");
        }
        if (clockwork.countOf(flow) == 0) {
            throw new NoSuchElementException("it was never there");
        }
        return network.rows[flow].latest;
    }

    public int seen(int flow) throws IllegalArgumentException {
        if (!network.has(flow)) {
            throw new IllegalArgumentException("no such flow");
        }
        return clockwork.countOf(flow);
    }

    public int flows() {
        return network.count;
    }

    private void beginUnchecked() {
        checker.forget();
        clockwork.restart();
    }

    private static boolean namesFlow(int kind) {
        return kind == FLOW || isSampling(kind);
    }

    private static boolean isSampling(int kind) {
        return kind == WHEN || kind == UNLESS || kind == MERGE;
    }

    private static int clockWhere(int number, boolean isTrue) {
        return 2 * number + (isTrue ? 1 : 2);
    }

    /** The flow whose values make a clock other than the basic one. */
    private static int flowBehind(int clock) {
        return (clock - 1) / 2;
    }

    private static int truth(boolean is) {
        return is ? 1 : 0;
    }

    /** A row of bytes in which each expression stands before its parts. */
    private static final class Expression {
        private final int[] bytes = new int[MOST_BYTES];
        /** At the first byte of an expression: where it ends; 0 at all other bytes. */
        private final int[] ends = new int[MOST_BYTES];
        /** At the first byte of an expression: the clock that it is wanted on. */
        private final int[] clocks = new int[MOST_BYTES];
        /** At a BEFORE: what its part was at the latest instant of its clock. */
        private final int[] past = new int[MOST_BYTES];
        private int length;

        private void append(int added) {
            bytes[length] = added;
            length++;
        }

        private boolean isWellFormed(int flowCount) {
            Arrays.fill(ends, 0);
            return readOne(0, 0, flowCount) == length;
        }

        /** Notes the ends of the expression at a byte and of those in it; its end, or NONE if it is malformed. */
        private int readOne(int at, int around, int flowCount) {
            if (at >= length || around > MOST_AROUND || bytes[at] > MERGE) {
                return NONE;
            }
            int kind = bytes[at];
            int next = at + HEAD[kind];
            if (next > length || namesFlow(kind) && bytes[at + 1] >= flowCount) {
                return NONE;
            }
            for (int part = 0; part < PARTS[kind]; part++) {
                next = readOne(next, around + 1, flowCount);
                if (next == NONE) {
                    return NONE;
                }
            }
            ends[at] = next;
            return next;
        }

        private boolean beginsAt(int at) {
            return ends[at] > 0;
        }

        private int firstPart(int at) {
            return at + HEAD[bytes[at]];
        }

        private int secondPart(int at) {
            return ends[firstPart(at)];
        }

        private int thirdPart(int at) {
            return ends[secondPart(at)];
        }

        private int named(int at) {
            return bytes[at + 1];
        }
    }

    private static final class Flow {
        private Expression expression = new Expression();
        private boolean bool;
        private boolean input;
        private int clock;
        private int host;
        private boolean isPresent;
        private int latest;

        private boolean hasEquation() {
            return expression.length > 0;
        }
    }

    private static final class Network {
        private final Flow[] rows = new Flow[MOST_FLOWS];
        private int count;

        private Network() {
            for (int number = 0; number < MOST_FLOWS; number++) {
                rows[number] = new Flow();
            }
        }

        private boolean has(int number) {
            return number >= 0 && number < count;
        }

        private boolean isClock(int clock) {
            if (clock <= 0) {
                return clock == 0;
            }
            return has(flowBehind(clock)) && rows[flowBehind(clock)].bool;
        }

        private int append(boolean bool, int clock, boolean input) {
            Flow row = rows[count];
            row.bool = bool;
            row.clock = clock;
            row.input = input;
            count++;
            return count - 1;
        }

        private int typeOf(int number) {
            return rows[number].bool ? BOOL : INT;
        }
    }

    /** Which flows wait for which, and what follows for the order in which they are worked out. */
    private static final class Waiting {
        private final Network network;
        /** For each flow: a bit for each flow that it waits for. */
        private final int[] masks = new int[MOST_FLOWS];
        /** The flows with equations, as the document puts them. */
        private final int[] order = new int[MOST_FLOWS];
        private int ordered;
        /** All flows, each behind those that it waits for. */
        private final int[] turns = new int[MOST_FLOWS];

        private Waiting(Network network) {
            this.network = network;
        }

        private void trace() {
            for (int number = 0; number < network.count; number++) {
                masks[number] = directWaits(network.rows[number]);
            }
            for (int through = 0; through < network.count; through++) {
                for (int number = 0; number < network.count; number++) {
                    if (waitsFor(number, through)) {
                        masks[number] |= masks[through];
                    }
                }
            }
        }

        private int directWaits(Flow row) {
            int mask = row.clock == 0 ? 0 : 1 << flowBehind(row.clock);
            Expression expression = row.expression;
            int hiddenUpTo = 0;
            for (int at = 0; at < expression.length; at++) {
                if (at < hiddenUpTo || !expression.beginsAt(at)) {
                    continue;
                }
                if (expression.bytes[at] == BEFORE) {
                    hiddenUpTo = expression.ends[at];
                } else if (namesFlow(expression.bytes[at])) {
                    mask |= 1 << expression.named(at);
                }
            }
            return mask;
        }

        private boolean waitsFor(int number, int other) {
            return (masks[number] >> other & 1) == 1;
        }

        private void arrange() {
            ordered = 0;
            int placed = 0;
            for (int turn = 0; turn < network.count; turn++) {
                // Inputs go as early as they can: then they never hold up the lowest flow with an equation.
                int number = lowestReady(true, placed);
                if (number == NONE) {
                    number = lowestReady(false, placed);
                }
                if (number == NONE) {
                    return;
                }
                turns[turn] = number;
                placed |= 1 << number;
                if (!network.rows[number].input) {
                    order[ordered] = number;
                    ordered++;
                }
            }
        }

        private int lowestReady(boolean input, int placed) {
            for (int number = 0; number < network.count; number++) {
                boolean open = (placed >> number & 1) == 0 && network.rows[number].input == input;
                if (open && (masks[number] & ~placed) == 0) {
                    return number;
                }
            }
            return NONE;
        }
    }

    /** Applies the five rules and keeps where the latest check failed. */
    private static final class Checker {
        private final Network network;
        private final Waiting waiting;
        private final int[] wantedTypes = new int[MOST_BYTES];
        private final boolean[] maybeNothing = new boolean[MOST_BYTES];
        private boolean passed;
        private int faultFlow = NONE;
        private int faultByte = NONE;

        private Checker(Network network, Waiting waiting) {
            this.network = network;
            this.waiting = waiting;
        }

        private void forget() {
            passed = false;
            faultFlow = NONE;
            faultByte = NONE;
        }

        private int examine() {
            forget();
            waiting.trace();
            for (int rule = UNDEFINED; rule <= WAITING; rule++) {
                if (!holdsForAll(rule)) {
                    return rule;
                }
            }
            waiting.arrange();
            passed = true;
            return 0;
        }

        private boolean holdsForAll(int rule) {
            for (int number = 0; number < network.count; number++) {
                int at = faultOf(rule, number);
                if (at != NONE) {
                    faultFlow = number;
                    faultByte = at;
                    return false;
                }
            }
            return true;
        }

        /** The lowest byte at which a flow breaks a rule, or NONE. */
        private int faultOf(int rule, int number) {
            Flow row = network.rows[number];
            if (rule == WAITING) {
                return waiting.waitsFor(number, number) ? 0 : NONE;
            }
            if (row.input) {
                return NONE;
            }
            switch (rule) {
                case UNDEFINED:
                    return row.hasEquation() ? NONE : 0;
                case TYPES:
                    return typeFault(row.expression, network.typeOf(number));
                case CLOCKS:
                    return clockFault(row.expression, row.clock);
                case BEGINNINGS:
                    return beginningFault(row.expression);
                default:
                    return NONE;
            }
        }

        // An expression stands before its parts, so going up the bytes hands down what is wanted
        // of each part in time, and the first fault met is the one at the lowest byte.
        private int typeFault(Expression expression, int wholeType) {
            wantedTypes[0] = wholeType;
            for (int at = 0; at < expression.length; at++) {
                if (!expression.beginsAt(at)) {
                    continue;
                }
                if (!isOfType(expression, at, wantedTypes[at])) {
                    return at;
                }
                wantTypesOfParts(expression, at);
            }
            return NONE;
        }

        private boolean isOfType(Expression expression, int at, int wanted) {
            int kind = expression.bytes[at];
            if (kind == FLOW) {
                return network.typeOf(expression.named(at)) == wanted;
            }
            if (isSampling(kind)) {
                return network.typeOf(expression.named(at)) == BOOL;
            }
            return RESULT[kind] == SAME || RESULT[kind] == wanted;
        }

        private void wantTypesOfParts(Expression expression, int at) {
            int kind = expression.bytes[at];
            int wanted = PART_TYPE[kind] == SAME ? wantedTypes[at] : PART_TYPE[kind];
            int part = expression.firstPart(at);
            for (int which = 0; which < PARTS[kind]; which++) {
                wantedTypes[part] = kind == IF && which == 0 ? BOOL : wanted;
                part = expression.ends[part];
            }
        }

        private int clockFault(Expression expression, int wholeClock) {
            expression.clocks[0] = wholeClock;
            for (int at = 0; at < expression.length; at++) {
                if (!expression.beginsAt(at)) {
                    continue;
                }
                if (ownClock(expression, at) != expression.clocks[at]) {
                    return at;
                }
                wantClocksOfParts(expression, at);
            }
            return NONE;
        }

        private int ownClock(Expression expression, int at) {
            switch (expression.bytes[at]) {
                case FLOW:
                case MERGE:
                    return network.rows[expression.named(at)].clock;
                case WHEN:
                    return clockWhere(expression.named(at), true);
                case UNLESS:
                    return clockWhere(expression.named(at), false);
                default:
                    return expression.clocks[at];
            }
        }

        private void wantClocksOfParts(Expression expression, int at) {
            int part = expression.firstPart(at);
            for (int which = 0; which < PARTS[expression.bytes[at]]; which++) {
                expression.clocks[part] = clockOfPart(expression, at, which);
                part = expression.ends[part];
            }
        }

        private int clockOfPart(Expression expression, int at, int which) {
            switch (expression.bytes[at]) {
                case WHEN:
                case UNLESS:
                    return network.rows[expression.named(at)].clock;
                case MERGE:
                    return clockWhere(expression.named(at), which == 0);
                default:
                    return expression.clocks[at];
            }
        }

        // Whether an expression may be nothing hangs on its parts, which stand behind it: hence from the end.
        private int beginningFault(Expression expression) {
            int lowest = NONE;
            for (int at = expression.length - 1; at >= 0; at--) {
                if (!expression.beginsAt(at)) {
                    continue;
                }
                int kind = expression.bytes[at];
                if ((kind == BEFORE || kind == FIRST) && maybeNothing[expression.firstPart(at)]) {
                    lowest = at;
                }
                maybeNothing[at] = kind == BEFORE || hasNothing(expression, at);
            }
            return maybeNothing[0] ? 0 : lowest;
        }

        private boolean hasNothing(Expression expression, int at) {
            int kind = expression.bytes[at];
            int asked = kind == FIRST ? 1 : PARTS[kind];
            int part = expression.firstPart(at);
            for (int which = 0; which < asked; which++) {
                if (maybeNothing[part]) {
                    return true;
                }
                part = expression.ends[part];
            }
            return false;
        }
    }

    /** Lets instants go by for a network whose check did not fail. */
    private static final class Clockwork {
        private final Network network;
        private final Waiting waiting;
        /** How many instants each clock has had, the one that is going on left out. */
        private final int[] counts = new int[MOST_CLOCKS];

        private Clockwork(Network network, Waiting waiting) {
            this.network = network;
            this.waiting = waiting;
        }

        private void restart() {
            Arrays.fill(counts, 0);
            for (int number = 0; number < network.count; number++) {
                Flow row = network.rows[number];
                row.isPresent = false;
                Arrays.fill(row.expression.past, 0);
            }
        }

        private int countOf(int number) {
            return counts[network.rows[number].clock];
        }

        private void step() {
            for (int turn = 0; turn < network.count; turn++) {
                workOut(network.rows[waiting.turns[turn]]);
            }
            // Only now: what stands in a BEFORE may name flows that are worked out late.
            for (int number = 0; number < network.count; number++) {
                remember(network.rows[number].expression);
            }
            for (int clock = 0; clock <= 2 * network.count; clock++) {
                counts[clock] += truth(hasInstant(clock));
            }
        }

        private void workOut(Flow row) {
            row.isPresent = hasInstant(row.clock);
            if (row.isPresent) {
                row.latest = row.input ? row.host : resultOf(row.expression, 0);
            }
        }

        private boolean hasInstant(int clock) {
            if (clock == 0) {
                return true;
            }
            Flow behind = network.rows[flowBehind(clock)];
            return behind.isPresent && behind.latest == clock % 2;
        }

        // Going up the bytes, a BEFORE around another still finds what the inner one was at this instant.
        private void remember(Expression expression) {
            for (int at = 0; at < expression.length; at++) {
                boolean isBefore = expression.beginsAt(at) && expression.bytes[at] == BEFORE;
                if (isBefore && hasInstant(expression.clocks[at])) {
                    expression.past[at] = resultOf(expression, expression.firstPart(at));
                }
            }
        }

        /** The value of the expression at a byte, at an instant of its clock. */
        private int resultOf(Expression expression, int at) {
            switch (expression.bytes[at]) {
                case NUMBER:
                    return expression.bytes[at + 1] - 128;
                case TRUE:
                    return 1;
                case FALSE:
                    return 0;
                case FLOW:
                    return network.rows[expression.named(at)].latest;
                case BEFORE:
                    return expression.past[at];
                case IF:
                case FIRST:
                case WHEN:
                case UNLESS:
                case MERGE:
                    return resultOf(expression, chosenPart(expression, at));
                case NOT:
                    return 1 - resultOf(expression, expression.firstPart(at));
                case MINUS:
                    return -resultOf(expression, expression.firstPart(at));
                default:
                    return combine(
                        expression.bytes[at],
                        resultOf(expression, expression.firstPart(at)),
                        resultOf(expression, expression.secondPart(at)));
            }
        }

        private int chosenPart(Expression expression, int at) {
            switch (expression.bytes[at]) {
                case IF:
                    boolean holds = resultOf(expression, expression.firstPart(at)) == 1;
                    return holds ? expression.secondPart(at) : expression.thirdPart(at);
                case FIRST:
                    boolean isFirst = counts[expression.clocks[at]] == 0;
                    return isFirst ? expression.firstPart(at) : expression.secondPart(at);
                case MERGE:
                    boolean isTrue = network.rows[expression.named(at)].latest == 1;
                    return isTrue ? expression.firstPart(at) : expression.secondPart(at);
                default:
                    return expression.firstPart(at);
            }
        }

        private static int combine(int kind, int left, int right) {
            switch (kind) {
                case ADD:
                    return left + right;
                case SUBTRACT:
                    return left - right;
                case MULTIPLY:
                    return left * right;
                case LESS:
                    return truth(left < right);
                case EQUAL:
                    return truth(left == right);
                case AND:
                    return left & right;
                case OR:
                default:
                    return left | right;
            }
        }
    }
}
