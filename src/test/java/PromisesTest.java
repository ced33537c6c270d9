/** One method for each promise, and some for the terms: ordinary inputs, edges and wrong inputs. */
public final class PromisesTest {
    private static final long ARGUMENT = Due.ILLEGAL_ARGUMENT;
    private static final long STATE = Due.ILLEGAL_STATE;
    private static final long ELEMENT = Due.NO_SUCH_ELEMENT;

    public static void main(String[] args) {
        newObject();
        flow();
        flowChanges();
        type();
        equation();
        malformed();
        depth();
        equationChanges();
        check();
        types();
        clocks();
        beginnings();
        waiting();
        rulesInOrder();
        fault();
        order();
        set();
        instants();
        time();
        present();
        value();
        seen();
        flows();
        arithmetic();
        choices();
        clocksOfBefore();
        nestedBefore();
        nothingComesUp();
        Due.end();
    }

    private static long flag(boolean is) {
        return is ? 1 : 0;
    }

    /** A new desk with one int flow without an equation on the basic clock. */
    private static FlowDesk intDesk() {
        FlowDesk desk = new FlowDesk();
        desk.flow(false, 0, false);
        return desk;
    }

    /** A new desk with a bool input 0 and an int input 1, both on the basic clock. */
    private static FlowDesk inputs() {
        FlowDesk desk = new FlowDesk();
        desk.flow(true, 0, true);
        desk.flow(false, 0, true);
        return desk;
    }

    private static void newObject() {
        FlowDesk desk = new FlowDesk();
        Due.is("1 flows", 0, desk::flows);
        Due.is("1 time", 0, desk::time);
        Due.is("1 fault 0", -1, () -> desk.fault(0));
        Due.is("1 fault 1", -1, () -> desk.fault(1));
        Due.is("1 order unchecked", STATE, () -> desk.order(0));
        Due.thrown("1 instants unchecked", STATE, () -> desk.instants(1));
        Due.is("1 present", ARGUMENT, () -> flag(desk.present(0)));
        Due.is("1 value", ARGUMENT, () -> desk.value(0));
        Due.is("1 seen", ARGUMENT, () -> desk.seen(0));
        Due.thrown("1 set", ARGUMENT, () -> desk.set(0, 1));
        Due.is("1 check of nothing", 0, desk::check);
        Due.is("1 order of nothing", ELEMENT, () -> desk.order(0));
        Due.done("1 instants of nothing", () -> desk.instants(50));
        Due.is("1 time of nothing", 50, desk::time);
        FlowDesk other = intDesk();
        Due.thrown("1 the draft is empty", ARGUMENT, () -> other.equation(0));
    }

    private static void flow() {
        FlowDesk desk = new FlowDesk();
        for (int clock : new int[] {-2, -1, 1, 2, 25, Integer.MAX_VALUE, Integer.MIN_VALUE}) {
            Due.is("2 no clock " + clock, ARGUMENT, () -> desk.flow(true, clock, true));
        }
        Due.is("2 flow 0", 0, () -> desk.flow(true, 0, false));
        Due.is("2 flow 1 on 1", 1, () -> desk.flow(false, 1, true));
        Due.is("2 flow 2 on 2", 2, () -> desk.flow(true, 2, false));
        Due.is("2 clock of an int flow", ARGUMENT, () -> desk.flow(true, 3, true));
        Due.is("2 other clock of an int flow", ARGUMENT, () -> desk.flow(true, 4, true));
        Due.is("2 flow 3 on 5", 3, () -> desk.flow(false, 5, true));
        Due.is("2 clock of the flow itself", ARGUMENT, () -> desk.flow(true, 9, true));
        for (int number = 4; number < 12; number++) {
            Due.is("2 flow " + number, number, () -> desk.flow(true, 6, true));
        }
        Due.is("2 thirteenth", STATE, () -> desk.flow(true, 0, true));
        Due.is("2 thirteenth on a late clock", STATE, () -> desk.flow(true, 24, true));
        Due.is("2 thirteenth on no clock", ARGUMENT, () -> desk.flow(true, 25, true));
        Due.is("2 twelve", 12, desk::flows);
    }

    private static void flowChanges() {
        FlowDesk desk = inputs();
        desk.set(1, 6);
        desk.check();
        desk.instants(3);
        Due.is("2 wrong clock", ARGUMENT, () -> desk.flow(true, 7, true));
        Due.is("2 a throw leaves the instants", 3, desk::time);
        Due.done("2 a throw leaves the check", () -> desk.instants(1));
        desk.flow(false, 0, true);
        Due.is("2 anew: time", 0, desk::time);
        Due.is("2 anew: seen", 0, () -> desk.seen(0));
        Due.is("2 anew: present", 0, () -> flag(desk.present(0)));
        Due.is("2 anew: value", ELEMENT, () -> desk.value(1));
        Due.is("2 anew: order", STATE, () -> desk.order(0));
        Due.thrown("2 anew: instants", STATE, () -> desk.instants(1));
        desk.check();
        desk.instants(1);
        Due.is("2 anew: what the host has set stays", 6, () -> desk.value(1));
        FlowDesk failing = intDesk();
        failing.check();
        Due.is("2 fault there", 0, () -> failing.fault(0));
        failing.flow(false, 0, true);
        Due.is("2 fault gone", -1, () -> failing.fault(0));
    }

    private static void type() {
        FlowDesk desk = intDesk();
        Due.thrown("3 n 0", ARGUMENT, () -> desk.type(3, 0));
        Due.thrown("3 n 9", ARGUMENT, () -> desk.type(3, 9));
        Due.thrown("3 n -1", ARGUMENT, () -> desk.type(3, -1));
        Due.thrown("3 n lowest", ARGUMENT, () -> desk.type(3, Integer.MIN_VALUE));
        Due.thrown("3 n highest", ARGUMENT, () -> desk.type(3, Integer.MAX_VALUE));
        desk.type(0x7777_0000_0000_00ffL, 2);
        Due.done("3 the lowest bytes, highest first", () -> desk.equation(0));
        desk.check();
        desk.instants(1);
        Due.is("3 byte 255", 127, () -> desk.value(0));
        desk.type(0x0600_fe06_0080_0001L, 8);
        Due.done("3 eight bytes", () -> desk.equation(0));
        desk.check();
        desk.instants(1);
        Due.is("3 eight bytes: the value", 126 + 0 - 127, () -> desk.value(0));
        desk.type(0x85L - 256, 1);
        Due.thrown("3 a byte of a negative long", ARGUMENT, () -> desk.equation(0));
        draftLimit();
    }

    private static void draftLimit() {
        FlowDesk desk = intDesk();
        // Nine sums within one another, so that the number at the end stands in nine others.
        int[] sum = new int[29];
        int at = 0;
        for (int i = 0; i < 9; i++) {
            sum[at++] = 6;
            sum[at++] = 0;
            sum[at++] = 129;
        }
        sum[at++] = 0;
        sum[at++] = 129;
        FlowDesk shallow = intDesk();
        Due.type(shallow, sum);
        Due.done("3 a sum of 29 bytes", () -> shallow.equation(0));
        shallow.check();
        shallow.instants(1);
        Due.is("3 a sum of ten", 10, () -> shallow.value(0));
        for (int i = 0; i < 38; i++) {
            desk.type(5, 1);
        }
        Due.thrown("3 41 bytes", STATE, () -> desk.type(5, 3));
        Due.thrown("3 46 bytes", STATE, () -> desk.type(5, 8));
        Due.done("3 39 bytes", () -> desk.type(5, 1));
        Due.done("3 40 bytes", () -> desk.type(5, 1));
        Due.thrown("3 41 bytes one by one", STATE, () -> desk.type(5, 1));
        Due.thrown("3 full and a wrong n", ARGUMENT, () -> desk.type(5, 9));
        Due.thrown("3 40 bytes, malformed", ARGUMENT, () -> desk.equation(0));
        Due.done("3 the draft is empty again", () -> desk.type(0x0080, 2));
        Due.done("3 and takes an equation", () -> desk.equation(0));
        fullEquation();
    }

    private static void fullEquation() {
        FlowDesk desk = new FlowDesk();
        desk.flow(false, 0, false);
        // A well-formed equation of just 40 bytes: twelve ones and one of them less, the whole turned round.
        int[] four = {6, 6, 0, 129, 0, 129, 6, 0, 129, 0, 129};
        java.util.ArrayList<Integer> row = new java.util.ArrayList<>();
        row.add(6);
        row.add(6);
        addAll(row, four);
        addAll(row, four);
        row.add(6);
        addAll(row, four);
        row.add(5);
        row.add(0);
        row.add(129);
        int[] bytes = row.stream().mapToInt(Integer::intValue).toArray();
        Due.same("3 the row has 39 bytes", 39, bytes.length);
        int[] full = new int[40];
        full[0] = 5;
        System.arraycopy(bytes, 0, full, 1, 39);
        Due.type(desk, full);
        Due.thrown("3 full", STATE, () -> desk.type(0, 1));
        Due.done("3 a throw leaves the draft", () -> desk.equation(0));
        desk.check();
        desk.instants(1);
        Due.is("3 forty bytes", -11, () -> desk.value(0));
    }

    private static void addAll(java.util.ArrayList<Integer> row, int[] bytes) {
        for (int b : bytes) {
            row.add(b);
        }
    }

    private static void equation() {
        FlowDesk desk = intDesk();
        desk.flow(false, 0, true);
        for (int flow : new int[] {-1, 1, 2, 12, Integer.MAX_VALUE, Integer.MIN_VALUE}) {
            Due.type(desk, 0, 129);
            Due.thrown("4 equation " + flow, ARGUMENT, () -> desk.equation(flow));
            Due.thrown("4 the draft is empty after " + flow, ARGUMENT, () -> desk.equation(0));
        }
        Due.type(desk, 0, 129);
        Due.done("4 equation", () -> desk.equation(0));
        Due.thrown("4 the draft is empty", ARGUMENT, () -> desk.equation(0));
        Due.is("4 the equation stays", 0, desk::check);
        Due.type(desk, 0, 131);
        Due.done("4 in place of one it had", () -> desk.equation(0));
        desk.check();
        desk.instants(1);
        Due.is("4 the new one", 3, () -> desk.value(0));
    }

    private static void malformed() {
        int[][] rows = {
            {19}, {255}, {128}, {0}, {3}, {3, 2}, {3, 255}, {3, 128}, {4}, {5}, {6}, {6, 0, 1}, {6, 0, 1, 0}, {0, 1, 0},
            {0, 1, 0, 1}, {1, 1}, {1, 0}, {13, 1, 1}, {13, 1, 1, 1, 1}, {14}, {15, 1}, {16}, {16, 0}, {16, 2, 1}, {17, 0},
            {17, 2, 1}, {18, 0, 1}, {18, 2, 1, 1}, {18, 0, 1, 1, 1}, {16, 0, 1, 1}, {10, 0, 0, 19}, {18}, {15, 1, 3, 2},
        };
        FlowDesk desk = intDesk();
        desk.flow(true, 0, true);
        for (int[] row : rows) {
            Due.type(desk, row);
            Due.thrown("4 malformed " + java.util.Arrays.toString(row), ARGUMENT, () -> desk.equation(0));
        }
        int[][] wellFormed = {
            {0, 0}, {0, 255}, {1}, {2}, {3, 0}, {3, 1}, {4, 0, 1}, {5, 1}, {6, 1, 2}, {7, 1, 2}, {8, 1, 2}, {9, 1, 2},
            {10, 1, 2}, {11, 0, 1, 2}, {12, 1, 2}, {13, 0, 1, 1, 2}, {14, 1}, {15, 1, 2}, {16, 0, 1}, {17, 1, 1}, {18, 1, 1, 2},
        };
        for (int[] row : wellFormed) {
            Due.type(desk, row);
            Due.done("4 well formed " + java.util.Arrays.toString(row), () -> desk.equation(0));
        }
    }

    private static int[] minuses(int many) {
        int[] row = new int[many + 2];
        java.util.Arrays.fill(row, 0, many, 5);
        row[many + 1] = 129;
        return row;
    }

    private static void depth() {
        FlowDesk desk = intDesk();
        Due.type(desk, minuses(10));
        Due.done("4 in ten others", () -> desk.equation(0));
        desk.check();
        desk.instants(1);
        Due.is("4 ten minuses", 1, () -> desk.value(0));
        Due.type(desk, minuses(9));
        Due.done("4 in nine others", () -> desk.equation(0));
        Due.type(desk, minuses(11));
        Due.thrown("4 in eleven others", ARGUMENT, () -> desk.equation(0));
        Due.type(desk, minuses(38));
        Due.thrown("4 in 38 others", ARGUMENT, () -> desk.equation(0));
        Due.type(desk, 6, 0, 1, 5, 5, 5, 5, 5, 5, 5, 5, 5, 5, 0, 1);
        Due.thrown("4 a second part in eleven", ARGUMENT, () -> desk.equation(0));
        Due.type(desk, 6, 5, 5, 5, 5, 5, 5, 5, 5, 5, 0, 1, 5, 5, 5, 5, 5, 5, 5, 5, 5, 0, 1);
        Due.done("4 both parts in ten", () -> desk.equation(0));
    }

    private static void equationChanges() {
        FlowDesk desk = intDesk();
        Due.define(desk, 0, 15, 0, 129, 6, 0, 129, 14, 3, 0);
        desk.check();
        desk.instants(3);
        desk.type(19, 1);
        Due.thrown("4 malformed", ARGUMENT, () -> desk.equation(0));
        Due.is("4 a throw leaves the instants", 3, desk::time);
        Due.done("4 a throw leaves the check", () -> desk.instants(1));
        Due.is("4 a throw leaves the equation", 4, () -> desk.value(0));
        Due.define(desk, 0, 15, 0, 130, 6, 0, 129, 14, 3, 0);
        Due.is("4 anew: time", 0, desk::time);
        Due.is("4 anew: seen", 0, () -> desk.seen(0));
        Due.is("4 anew: present", 0, () -> flag(desk.present(0)));
        Due.is("4 anew: value", ELEMENT, () -> desk.value(0));
        Due.is("4 anew: order", STATE, () -> desk.order(0));
        Due.thrown("4 anew: instants", STATE, () -> desk.instants(1));
        desk.check();
        desk.instants(2);
        Due.is("4 anew: from the beginning", 3, () -> desk.value(0));
    }

    private static void check() {
        FlowDesk desk = intDesk();
        Due.is("5 no equation", 1, desk::check);
        Due.is("5 no equation again", 1, desk::check);
        Due.define(desk, 0, 15, 0, 129, 6, 0, 129, 14, 3, 0);
        Due.is("5 check", 0, desk::check);
        desk.instants(5);
        Due.is("5 five instants", 5, () -> desk.value(0));
        Due.is("5 check again", 0, desk::check);
        Due.is("5 anew: time", 0, desk::time);
        Due.is("5 anew: seen", 0, () -> desk.seen(0));
        Due.is("5 anew: present", 0, () -> flag(desk.present(0)));
        Due.is("5 anew: value", ELEMENT, () -> desk.value(0));
        Due.done("5 and checked", () -> desk.instants(2));
        Due.is("5 anew: first and before", 2, () -> desk.value(0));
        desk.type(0, 1);
        Due.done("5 a draft changes nothing", () -> desk.instants(1));
        Due.is("5 time goes on", 3, desk::time);
    }

    private static void faults(String what, FlowDesk desk, int rule, int flow, int at) {
        Due.is(what + ": check", rule, desk::check);
        Due.is(what + ": flow", flow, () -> desk.fault(0));
        Due.is(what + ": byte", at, () -> desk.fault(1));
    }

    /** Flows: 0 bool input, 1 int input, 2 an int on 1, 3 an int on 2, 4 int and 5 bool on 0; equations that pass. */
    private static FlowDesk variety() {
        FlowDesk desk = inputs();
        desk.flow(false, 1, false);
        desk.flow(false, 2, false);
        desk.flow(false, 0, false);
        desk.flow(true, 0, false);
        Due.define(desk, 2, 0, 1);
        Due.define(desk, 3, 0, 1);
        Due.define(desk, 4, 0, 1);
        Due.define(desk, 5, 1);
        return desk;
    }

    private static void rule(int rule, int flow, int at, int... bytes) {
        FlowDesk desk = variety();
        Due.define(desk, flow, bytes);
        boolean passes = rule == 0;
        faults("5 rule " + rule + " " + flow + java.util.Arrays.toString(bytes), desk, rule, passes ? -1 : flow, passes ? -1 : at);
    }

    private static void types() {
        rule(2, 4, 0, 1);
        rule(2, 4, 0, 2);
        rule(2, 5, 0, 0, 1);
        rule(2, 4, 0, 3, 0);
        rule(2, 5, 0, 3, 1);
        rule(2, 4, 0, 4, 1);
        rule(2, 5, 0, 5, 0, 1);
        rule(2, 5, 1, 4, 0, 1);
        rule(2, 4, 1, 5, 1);
        for (int kind = 6; kind <= 8; kind++) {
            rule(0, 4, 0, kind, 3, 1, 0, 4);
            rule(2, 5, 0, kind, 3, 1, 0, 4);
            rule(2, 4, 1, kind, 3, 0, 1);
            rule(2, 4, 3, kind, 3, 1, 1);
        }
        for (int kind = 9; kind <= 10; kind++) {
            rule(0, 5, 0, kind, 3, 1, 0, 4);
            rule(2, 4, 0, kind, 3, 1, 0, 4);
            rule(2, 5, 1, kind, 3, 0, 3, 0);
            rule(2, 5, 3, kind, 3, 1, 3, 0);
        }
        for (int kind = 11; kind <= 12; kind++) {
            rule(0, 5, 0, kind, 3, 0, 1);
            rule(2, 4, 0, kind, 3, 0, 1);
            rule(2, 5, 1, kind, 3, 1, 1);
            rule(2, 5, 3, kind, 3, 0, 3, 1);
        }
        typesOfAnyType();
    }

    private static void typesOfAnyType() {
        rule(0, 4, 0, 13, 1, 0, 1, 3, 1);
        rule(0, 5, 0, 13, 1, 1, 3, 0);
        rule(2, 4, 1, 13, 0, 1, 0, 1, 3, 1);
        rule(2, 4, 2, 13, 1, 1, 3, 1);
        rule(2, 4, 4, 13, 1, 3, 1, 1);
        rule(2, 5, 2, 13, 1, 0, 1, 0, 1);
        rule(2, 4, 1, 14, 1);
        rule(2, 4, 1, 15, 1, 0, 1);
        rule(2, 4, 3, 15, 0, 1, 1);
        rule(2, 5, 2, 15, 1, 0, 1);
        rule(2, 2, 2, 16, 0, 1);
        rule(2, 2, 0, 16, 1, 0, 1);
        rule(2, 3, 2, 17, 0, 3, 0);
        rule(2, 3, 0, 17, 1, 1);
        rule(2, 4, 0, 18, 1, 0, 1, 0, 1);
        rule(2, 4, 2, 18, 0, 1, 0, 1);
        rule(2, 4, 4, 18, 0, 0, 1, 1);
        rule(2, 5, 3, 18, 0, 1, 0, 1);
        rule(2, 4, 3, 6, 3, 1, 16, 1, 1);
    }

    private static void clocks() {
        rule(0, 2, 0, 0, 1);
        rule(3, 2, 0, 3, 1);
        rule(3, 4, 0, 3, 2);
        rule(3, 4, 0, 16, 0, 3, 1);
        rule(0, 2, 0, 16, 0, 3, 1);
        rule(3, 2, 0, 17, 0, 3, 1);
        rule(0, 3, 0, 17, 0, 3, 1);
        rule(3, 3, 0, 16, 0, 3, 1);
        rule(3, 2, 2, 16, 0, 3, 2);
        rule(3, 3, 2, 17, 0, 3, 3);
        rule(0, 4, 0, 18, 0, 3, 2, 3, 3);
        rule(3, 4, 2, 18, 0, 3, 1, 3, 3);
        rule(3, 4, 2, 18, 0, 3, 3, 3, 2);
        rule(3, 4, 4, 18, 0, 3, 2, 3, 1);
        rule(3, 4, 4, 18, 0, 3, 2, 3, 2);
        rule(3, 2, 0, 18, 0, 3, 2, 3, 3);
        rule(0, 4, 0, 18, 0, 16, 0, 3, 1, 17, 0, 3, 1);
        rule(3, 4, 2, 18, 0, 17, 0, 3, 1, 17, 0, 3, 1);
        rule(0, 4, 0, 18, 0, 0, 1, 0, 2);
        rule(0, 2, 0, 6, 0, 1, 16, 0, 0, 1);
        rule(3, 4, 3, 6, 3, 1, 3, 2);
        rule(3, 4, 1, 5, 16, 0, 3, 1);
        rule(3, 4, 2, 13, 1, 3, 2, 3, 3);
        rule(3, 4, 4, 15, 0, 1, 14, 3, 2);
    }

    private static void beginnings() {
        rule(4, 4, 0, 14, 3, 1);
        rule(4, 4, 0, 6, 0, 1, 14, 3, 1);
        rule(4, 4, 0, 6, 14, 3, 1, 0, 1);
        rule(4, 5, 0, 4, 14, 3, 0);
        rule(4, 4, 0, 13, 14, 1, 0, 1, 0, 2);
        rule(4, 4, 0, 13, 1, 14, 0, 1, 0, 2);
        rule(4, 4, 0, 13, 1, 0, 1, 14, 0, 2);
        rule(4, 2, 0, 16, 0, 14, 3, 1);
        rule(4, 3, 0, 17, 0, 14, 3, 1);
        rule(4, 4, 0, 18, 0, 14, 0, 1, 0, 1);
        rule(4, 4, 0, 18, 0, 0, 1, 14, 0, 1);
        rule(0, 4, 0, 15, 0, 1, 14, 3, 1);
        rule(4, 4, 0, 15, 14, 3, 1, 0, 1);
        rule(4, 4, 0, 15, 14, 3, 1, 14, 3, 1);
        rule(4, 4, 3, 15, 0, 1, 14, 14, 3, 1);
        rule(4, 4, 3, 15, 0, 1, 15, 14, 3, 1, 0, 1);
        rule(4, 4, 4, 15, 0, 1, 5, 14, 5, 14, 3, 1);
        rule(0, 4, 0, 15, 0, 1, 14, 15, 0, 1, 14, 3, 1);
        rule(0, 4, 0, 6, 0, 1, 15, 0, 1, 14, 3, 1);
        rule(0, 4, 0, 15, 15, 0, 1, 14, 3, 1, 14, 3, 1);
        rule(4, 4, 3, 15, 0, 1, 14, 15, 14, 3, 1, 14, 3, 1);
        rule(4, 4, 4, 15, 0, 1, 6, 14, 14, 3, 1, 14, 14, 3, 1);
    }

    private static void waiting() {
        rule(5, 4, 0, 3, 4);
        rule(0, 4, 0, 15, 0, 1, 14, 3, 4);
        rule(5, 4, 0, 15, 3, 4, 14, 3, 4);
        rule(5, 5, 0, 9, 3, 1, 13, 3, 5, 0, 1, 0, 1);
        FlowDesk desk = variety();
        Due.define(desk, 4, 13, 3, 5, 0, 1, 0, 2);
        Due.define(desk, 5, 9, 3, 4, 0, 1);
        faults("5 two wait for one another", desk, 5, 4, 0);
        Due.define(desk, 5, 9, 15, 0, 1, 14, 3, 4, 0, 1);
        Due.is("5 not within BEFORE", 0, desk::check);
        waitingForClocks();
    }

    private static void waitingForClocks() {
        // Flow 0 names, through MERGE, WHEN or UNLESS on itself, what is on its own clock.
        FlowDesk desk = new FlowDesk();
        desk.flow(true, 0, false);
        desk.flow(true, 1, true);
        Due.define(desk, 0, 18, 0, 1, 2);
        faults("5 MERGE names its flow", desk, 5, 0, 0);
        Due.define(desk, 0, 15, 1, 14, 18, 0, 3, 1, 2);
        Due.is("5 MERGE within BEFORE", 0, desk::check);

        // Flow 1 is on the clock of flow 0, whose value hangs on flow 2, a merge of flow 1.
        FlowDesk ring = new FlowDesk();
        ring.flow(true, 0, false);
        ring.flow(true, 1, true);
        ring.flow(true, 0, false);
        Due.define(ring, 0, 3, 2);
        Due.define(ring, 2, 18, 0, 3, 1, 2);
        faults("5 through a clock", ring, 5, 0, 0);
        Due.define(ring, 2, 1);
        Due.is("5 no ring", 0, ring::check);

        // Flow 2's clock is flow 1; flow 1 waits for flow 3, and that names flow 2 through a merge.
        FlowDesk late = new FlowDesk();
        late.flow(true, 0, true);
        late.flow(true, 0, false);
        late.flow(true, 3, false);
        late.flow(true, 0, false);
        Due.define(late, 1, 3, 3);
        Due.define(late, 2, 1);
        Due.define(late, 3, 18, 1, 3, 2, 2);
        faults("5 the lowest that waits for itself", late, 5, 1, 0);
        Due.define(late, 2, 16, 1, 3, 0);
        Due.define(late, 3, 1);
        Due.is("5 WHEN waits for its flow", 0, late::check);
        Due.is("7 order 0", 3, () -> late.order(0));
        Due.is("7 order 1", 1, () -> late.order(1));
        Due.is("7 order 2", 2, () -> late.order(2));
    }

    private static void rulesInOrder() {
        FlowDesk desk = inputs();
        for (int flow = 2; flow < 7; flow++) {
            desk.flow(false, 0, false);
        }
        Due.define(desk, 2, 3, 2);
        Due.define(desk, 3, 14, 3, 1);
        Due.define(desk, 4, 16, 0, 3, 1);
        Due.define(desk, 5, 6, 0, 1, 3, 0);
        faults("5 rule 1 first", desk, 1, 6, 0);
        Due.define(desk, 6, 0, 1);
        faults("5 rule 2 next", desk, 2, 5, 3);
        Due.define(desk, 5, 0, 1);
        faults("5 rule 3 next", desk, 3, 4, 0);
        Due.define(desk, 4, 0, 1);
        faults("5 rule 4 next", desk, 4, 3, 0);
        Due.define(desk, 3, 3, 2);
        faults("5 rule 5 last", desk, 5, 2, 0);
        Due.define(desk, 2, 3, 3);
        faults("5 two flows", desk, 5, 2, 0);
        Due.define(desk, 2, 1);
        Due.define(desk, 6, 1);
        faults("5 the lowest flow", desk, 2, 2, 0);
    }

    private static void fault() {
        FlowDesk desk = intDesk();
        for (int what : new int[] {-1, 2, Integer.MAX_VALUE, Integer.MIN_VALUE}) {
            Due.is("6 no such what " + what, ARGUMENT, () -> desk.fault(what));
        }
        Due.is("6 not checked", -1, () -> desk.fault(0));
        Due.define(desk, 0, 6, 0, 1, 6, 0, 2, 1);
        Due.is("6 not checked yet", -1, () -> desk.fault(1));
        faults("6 a fault", desk, 2, 0, 6);
        desk.type(1, 1);
        Due.is("6 a draft changes nothing", 6, () -> desk.fault(1));
        Due.thrown("6 no such flow", ARGUMENT, () -> desk.equation(1));
        Due.is("6 a throw changes nothing", 6, () -> desk.fault(1));
        Due.is("6 a throw of flow changes nothing", ARGUMENT, () -> desk.flow(true, -1, true));
        Due.is("6 the flow is still told", 0, () -> desk.fault(0));
        Due.define(desk, 0, 1);
        Due.is("6 changed: flow", -1, () -> desk.fault(0));
        Due.is("6 changed: byte", -1, () -> desk.fault(1));
        desk.check();
        Due.define(desk, 0, 0, 1);
        faults("6 no fault", desk, 0, -1, -1);
    }

    private static void order() {
        FlowDesk desk = new FlowDesk();
        for (int flow = 0; flow < 6; flow++) {
            desk.flow(false, 0, flow == 2);
        }
        Due.define(desk, 0, 3, 5);
        Due.define(desk, 1, 6, 3, 0, 3, 2);
        Due.define(desk, 3, 0, 1);
        Due.define(desk, 4, 3, 2);
        Due.define(desk, 5, 3, 3);
        Due.is("7 unchecked", STATE, () -> desk.order(0));
        Due.is("7 unchecked and none", STATE, () -> desk.order(-1));
        desk.check();
        int[] due = {3, 4, 5, 0, 1};
        for (int k = 0; k < 5; k++) {
            int at = k;
            Due.is("7 order " + at, due[at], () -> desk.order(at));
        }
        for (int k : new int[] {-1, 5, 6, 12, Integer.MAX_VALUE, Integer.MIN_VALUE}) {
            Due.is("7 none " + k, ELEMENT, () -> desk.order(k));
        }
        Due.define(desk, 3, 3, 0);
        desk.check();
        Due.is("7 failed", STATE, () -> desk.order(0));
        orderThroughInputs();
    }

    private static void orderThroughInputs() {
        // Flow 1 names input 4, which is on the clock of flow 3: so it comes behind flow 3.
        FlowDesk desk = new FlowDesk();
        desk.flow(true, 0, true);
        desk.flow(false, 0, false);
        desk.flow(true, 0, false);
        desk.flow(true, 0, false);
        desk.flow(false, 7, true);
        desk.flow(false, 0, true);
        Due.define(desk, 1, 18, 3, 3, 4, 0, 128);
        Due.define(desk, 2, 9, 3, 5, 0, 133);
        Due.define(desk, 3, 3, 0);
        Due.is("7 through an input", 0, desk::check);
        Due.is("7 a late input holds nobody up", 2, () -> desk.order(0));
        Due.is("7 behind the clock", 3, () -> desk.order(1));
        Due.is("7 behind the input", 1, () -> desk.order(2));
        desk.set(0, 1);
        desk.set(4, 44);
        desk.instants(1);
        Due.is("9 an input on a clock from an equation", 44, () -> desk.value(1));
        desk.set(0, 0);
        desk.instants(1);
        Due.is("9 and when it is not there", 0, () -> desk.value(1));
        Due.is("11 absent", 0, () -> flag(desk.present(4)));
        Due.is("12 the latest", 44, () -> desk.value(4));
    }

    private static void set() {
        FlowDesk desk = inputs();
        desk.flow(false, 0, false);
        Due.define(desk, 2, 3, 1);
        for (int flow : new int[] {-1, 2, 3, 12, Integer.MAX_VALUE, Integer.MIN_VALUE}) {
            Due.thrown("8 no input " + flow, ARGUMENT, () -> desk.set(flow, 1));
        }
        desk.check();
        desk.instants(1);
        Due.is("8 0 at first", 0, () -> desk.value(1));
        Due.is("8 false at first", 0, () -> desk.value(0));
        desk.set(0, Integer.MIN_VALUE);
        desk.set(1, Integer.MIN_VALUE);
        Due.is("8 not before the next instant", 0, () -> desk.value(1));
        Due.done("8 still checked", () -> desk.instants(1));
        Due.is("8 an int", Integer.MIN_VALUE, () -> desk.value(1));
        Due.is("8 and what is made of it", Integer.MIN_VALUE, () -> desk.value(2));
        Due.is("8 a bool", 1, () -> desk.value(0));
        Due.is("8 time goes on", 2, desk::time);
        desk.set(1, 8);
        desk.set(1, 9);
        desk.set(0, 0);
        desk.instants(2);
        Due.is("8 the last one set", 9, () -> desk.value(2));
        Due.is("8 a bool 0", 0, () -> desk.value(0));
        desk.check();
        desk.instants(1);
        Due.is("8 it stays over a check", 9, () -> desk.value(1));
    }

    private static void instants() {
        FlowDesk desk = intDesk();
        Due.thrown("9 unchecked", STATE, () -> desk.instants(1));
        for (int n : new int[] {0, 51, -1, Integer.MAX_VALUE, Integer.MIN_VALUE}) {
            Due.thrown("9 unchecked and " + n, ARGUMENT, () -> desk.instants(n));
        }
        desk.check();
        Due.thrown("9 the check failed", STATE, () -> desk.instants(1));
        Due.thrown("9 the check failed and 51", ARGUMENT, () -> desk.instants(51));
        Due.define(desk, 0, 15, 0, 129, 6, 0, 129, 14, 3, 0);
        desk.check();
        for (int n : new int[] {0, 51, -1, Integer.MAX_VALUE, Integer.MIN_VALUE}) {
            Due.thrown("9 wrong " + n, ARGUMENT, () -> desk.instants(n));
        }
        Due.is("9 none of these", 0, desk::time);
        Due.done("9 fifty", () -> desk.instants(50));
        Due.is("9 fifty: value", 50, () -> desk.value(0));
        Due.done("9 one", () -> desk.instants(1));
        Due.is("9 51 in all", 51, () -> desk.value(0));
    }

    private static void time() {
        FlowDesk desk = inputs();
        Due.is("10 none", 0, desk::time);
        desk.check();
        Due.is("10 none yet", 0, desk::time);
        desk.instants(3);
        desk.instants(4);
        Due.is("10 seven", 7, desk::time);
        Due.thrown("10 a throw", ARGUMENT, () -> desk.instants(0));
        Due.is("10 still seven", 7, desk::time);
        for (int i = 0; i < 100; i++) {
            desk.instants(50);
        }
        Due.is("10 many", 5007, desk::time);
    }

    /** Flows: 0 bool input; 1 int input where 0 is true; 2 int input where it is false; 3 and 4 two deep. */
    private static FlowDesk sampled() {
        FlowDesk desk = new FlowDesk();
        desk.flow(true, 0, true);
        desk.flow(true, 1, true);
        desk.flow(false, 2, true);
        desk.flow(false, 3, true);
        desk.flow(false, 4, true);
        desk.check();
        return desk;
    }

    private static void there(String what, FlowDesk desk, int... due) {
        for (int flow = 0; flow < due.length; flow++) {
            int number = flow;
            Due.is(what + " " + number, due[number], () -> flag(desk.present(number)));
        }
    }

    private static void present() {
        FlowDesk desk = sampled();
        for (int flow : new int[] {-1, 5, 12, Integer.MAX_VALUE, Integer.MIN_VALUE}) {
            Due.is("11 no flow " + flow, ARGUMENT, () -> flag(desk.present(flow)));
        }
        there("11 before the first", desk, 0, 0, 0, 0, 0);
        desk.instants(1);
        there("11 false", desk, 1, 0, 1, 0, 0);
        desk.set(0, 1);
        there("11 the latest instant", desk, 1, 0, 1, 0, 0);
        desk.instants(1);
        there("11 true, false", desk, 1, 1, 0, 0, 1);
        desk.set(1, 1);
        desk.instants(1);
        there("11 true, true", desk, 1, 1, 0, 1, 0);
        desk.set(0, 0);
        desk.instants(1);
        there("11 flow 1 absent, last true", desk, 1, 0, 1, 0, 0);
        desk.check();
        there("11 anew", desk, 0, 0, 0, 0, 0);
    }

    private static void value() {
        FlowDesk desk = sampled();
        for (int flow : new int[] {-1, 5, 12, Integer.MAX_VALUE, Integer.MIN_VALUE}) {
            Due.is("12 no flow " + flow, ARGUMENT, () -> desk.value(flow));
        }
        for (int flow = 0; flow < 5; flow++) {
            int number = flow;
            Due.is("12 never there " + number, ELEMENT, () -> desk.value(number));
        }
        desk.set(2, 22);
        desk.instants(1);
        Due.is("12 there", 22, () -> desk.value(2));
        Due.is("12 not there", ELEMENT, () -> desk.value(1));
        Due.is("12 not there, two deep", ELEMENT, () -> desk.value(4));
        desk.set(0, 1);
        desk.set(2, 23);
        desk.instants(1);
        Due.is("12 the latest at which it was there", 22, () -> desk.value(2));
        Due.is("12 1 for true", 1, () -> desk.value(0));
        Due.is("12 0 for false", 0, () -> desk.value(1));
        Due.is("12 still not there", ELEMENT, () -> desk.value(3));
        desk.check();
        Due.is("12 anew", ELEMENT, () -> desk.value(2));
    }

    private static void counts(String what, FlowDesk desk, int... due) {
        for (int flow = 0; flow < due.length; flow++) {
            int number = flow;
            Due.is(what + " " + number, due[number], () -> desk.seen(number));
        }
    }

    private static void seen() {
        FlowDesk desk = sampled();
        for (int flow : new int[] {-1, 5, 12, Integer.MAX_VALUE, Integer.MIN_VALUE}) {
            Due.is("13 no flow " + flow, ARGUMENT, () -> desk.seen(flow));
        }
        counts("13 none", desk, 0, 0, 0, 0, 0);
        desk.instants(3);
        counts("13 false", desk, 3, 0, 3, 0, 0);
        desk.set(0, 1);
        desk.instants(4);
        counts("13 true, false", desk, 7, 4, 3, 0, 4);
        desk.set(1, 1);
        desk.instants(5);
        counts("13 true, true", desk, 12, 9, 3, 5, 4);
        desk.set(0, 0);
        desk.instants(1);
        counts("13 false again", desk, 13, 9, 4, 5, 4);
        desk.flow(true, 0, true);
        counts("13 anew", desk, 0, 0, 0, 0, 0, 0);
    }

    private static void flows() {
        FlowDesk desk = new FlowDesk();
        for (int many = 0; many < 12; many++) {
            Due.is("14 flows", many, desk::flows);
            desk.flow(true, 0, true);
        }
        Due.is("14 twelve", 12, desk::flows);
        Due.is("14 no more", STATE, () -> desk.flow(true, 0, true));
        Due.is("14 still twelve", 12, desk::flows);
    }

    /** What an equation over the int inputs 0 and 1 and the bool inputs 2 and 3 is at one instant. */
    private static long once(boolean bool, int a, int b, int... bytes) {
        FlowDesk desk = new FlowDesk();
        desk.flow(false, 0, true);
        desk.flow(false, 0, true);
        desk.flow(true, 0, true);
        desk.flow(true, 0, true);
        desk.flow(bool, 0, false);
        Due.define(desk, 4, bytes);
        desk.set(0, a);
        desk.set(1, b);
        desk.set(2, a);
        desk.set(3, b);
        Due.is("9 check", 0, desk::check);
        desk.instants(1);
        return desk.value(4);
    }

    private static void arithmetic() {
        int[] some = {0, 1, -1, 7, -12, 100000, Integer.MAX_VALUE, Integer.MIN_VALUE};
        for (int a : some) {
            Due.same("9 MINUS", -a, once(false, a, 0, 5, 3, 0));
            for (int b : some) {
                Due.same("9 ADD", a + b, once(false, a, b, 6, 3, 0, 3, 1));
                Due.same("9 SUBTRACT", a - b, once(false, a, b, 7, 3, 0, 3, 1));
                Due.same("9 MULTIPLY", a * b, once(false, a, b, 8, 3, 0, 3, 1));
                Due.same("9 LESS", flag(a < b), once(true, a, b, 9, 3, 0, 3, 1));
                Due.same("9 EQUAL", flag(a == b), once(true, a, b, 10, 3, 0, 3, 1));
            }
        }
        for (int b = 0; b < 256; b++) {
            Due.same("9 NUMBER", b - 128, once(false, 0, 0, 0, b));
        }
    }

    private static void choices() {
        Due.same("9 TRUE", 1, once(true, 0, 0, 1));
        Due.same("9 FALSE", 0, once(true, 0, 0, 2));
        for (int a = 0; a < 2; a++) {
            Due.same("9 FLOW", a, once(true, a, 0, 3, 2));
            Due.same("9 NOT", 1 - a, once(true, a, 0, 4, 3, 2));
            Due.same("9 IF", a == 1 ? 10 : 20, once(false, a, 0, 13, 3, 2, 0, 138, 0, 148));
            Due.same("9 MERGE", a == 1 ? 10 : 20, once(false, a, 0, 18, 2, 0, 138, 0, 148));
            Due.same("9 FIRST", 10, once(false, a, 0, 15, 0, 138, 0, 148));
            for (int b = 0; b < 2; b++) {
                Due.same("9 AND", a & b, once(true, a, b, 11, 3, 2, 3, 3));
                Due.same("9 OR", a | b, once(true, a, b, 12, 3, 2, 3, 3));
            }
        }
    }

    /** Sets inputs 0 and 1 of a desk and lets one instant go by. */
    private static void go(FlowDesk desk, int bool, int number) {
        desk.set(0, bool);
        desk.set(1, number);
        desk.instants(1);
    }

    private static void clocksOfBefore() {
        FlowDesk desk = inputs();
        desk.flow(false, 1, false);
        desk.flow(false, 1, false);
        desk.flow(false, 0, false);
        // 2: the number before, at all instants, taken where 0 is true. 3: the number before among those.
        Due.define(desk, 2, 16, 0, 15, 0, 127, 14, 3, 1);
        Due.define(desk, 3, 15, 0, 127, 14, 16, 0, 3, 1);
        // 4: counts the instants of each of the two clocks.
        Due.define(desk, 4, 18, 0, 15, 0, 129, 6, 0, 129, 14, 16, 0, 15, 0, 128, 14, 3, 4, 17, 0, 3, 1);
        Due.is("9 check of clocks", 0, desk::check);
        go(desk, 0, 10);
        Due.is("9 UNLESS", 10, () -> desk.value(4));
        go(desk, 1, 20);
        Due.is("9 WHEN e has all instants", 10, () -> desk.value(2));
        Due.is("9 FIRST on the clock itself", -1, () -> desk.value(3));
        Due.is("9 FIRST in a MERGE", 1, () -> desk.value(4));
        go(desk, 0, 30);
        go(desk, 0, 40);
        Due.is("12 it stays", 10, () -> desk.value(2));
        go(desk, 1, 50);
        Due.is("9 the instant before of all", 40, () -> desk.value(2));
        Due.is("9 the instant before of the clock", 20, () -> desk.value(3));
        Due.is("9 BEFORE in a MERGE: flow 4 before instant 2, and one more", 11, () -> desk.value(4));
        go(desk, 1, 60);
        Due.is("9 next of all", 50, () -> desk.value(2));
        Due.is("9 next of the clock", 50, () -> desk.value(3));
        Due.is("9 next in a MERGE: flow 4 before instant 5, and one more", 41, () -> desk.value(4));
    }

    private static void nestedBefore() {
        FlowDesk desk = inputs();
        desk.flow(false, 0, false);
        // What the number was two instants ago.
        Due.define(desk, 2, 15, 0, 127, 14, 15, 0, 126, 14, 3, 1);
        Due.is("9 check of nested BEFORE", 0, desk::check);
        int[] due = {-1, -2, 3, 6, 9, 12};
        for (int i = 0; i < due.length; i++) {
            go(desk, 0, 3 * (i + 1));
            Due.is("9 two instants ago, at " + i, due[i], () -> desk.value(2));
        }
        FlowDesk branch = inputs();
        branch.flow(false, 0, false);
        // A BEFORE goes on in the branch that is not taken.
        Due.define(branch, 2, 13, 3, 0, 15, 0, 127, 14, 3, 1, 0, 128);
        branch.check();
        go(branch, 0, 5);
        go(branch, 0, 6);
        go(branch, 1, 7);
        Due.is("9 BEFORE in a branch", 6, () -> branch.value(2));
    }

    private static void nothingComesUp() {
        FlowDesk desk = inputs();
        desk.flow(false, 0, false);
        desk.flow(true, 0, false);
        Due.define(desk, 2, 15, 0, 127, 18, 0, 14, 0, 138, 14, 0, 148);
        Due.define(desk, 3, 15, 1, 18, 0, 14, 1, 14, 1);
        Due.is("9 check of nothing", 0, desk::check);
        go(desk, 1, 0);
        Due.is("9 the first", -1, () -> desk.value(2));
        Due.is("9 the first bool", 1, () -> desk.value(3));
        go(desk, 0, 0);
        Due.is("9 nothing is 0", 0, () -> desk.value(2));
        Due.is("9 nothing is false", 0, () -> desk.value(3));
        go(desk, 1, 0);
        Due.is("9 something", 10, () -> desk.value(2));
        Due.is("9 something true", 1, () -> desk.value(3));
        go(desk, 0, 0);
        Due.is("9 something else", 20, () -> desk.value(2));
        desk.check();
        go(desk, 0, 0);
        go(desk, 1, 0);
        Due.is("9 nothing again", 0, () -> desk.value(2));
    }
}
