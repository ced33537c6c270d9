import java.util.ArrayList;
import java.util.List;
import java.util.Random;

/** Random runs of calls, the same ones each time, on a desk and on the oracle beside it. */
public final class RandomRunsTest {
    private static final int RUNS = 8000;
    /** No step of a run makes more calls: that many are made when a row of 100 bytes is typed one by one. */
    private static final int STEP = 101;

    private final Random random;
    private final Desk desk = new Desk();
    private final Oracle oracle = new Oracle();
    private static final int[] rules = new int[6];
    private static int ran = 0;

    private RandomRunsTest(int run) {
        random = new Random(run);
        Due.begin("run " + run);
    }

    public static void main(String[] args) {
        for (int run = 0; run < RUNS && Due.wrongSoFar() == 0; run++) {
            new RandomRunsTest(run).go();
        }
        Due.begin("all runs");
        // Random runs that never reach a rule, or hardly any instant, would test nothing there.
        for (int rule = 0; rule < rules.length; rule++) {
            System.out.println("checks with answer " + rule + ": " + rules[rule]);
            Due.holds("rule " + rule + " comes up too seldom", rules[rule] >= 200);
        }
        System.out.println("instants: " + ran);
        Due.holds("instants come up too seldom", ran >= 100000);
        Due.end();
    }

    private boolean chance(int percent) {
        return random.nextInt(100) < percent;
    }

    private void go() {
        boolean tidy = chance(70);
        int flows = 1 + random.nextInt(12);
        for (int i = 0; i < flows; i++) {
            addFlow();
        }
        if (tidy || chance(90)) {
            defineAll(tidy ? 0 : 25);
        }
        while (desk.callsLeft() >= STEP) {
            anyCall(tidy);
        }
    }

    private int anyFlow() {
        int flows = (int) oracle.flows();
        return chance(5) || flows == 0 ? random.nextInt(16) - 2 : random.nextInt(flows);
    }

    private void anyCall(boolean tidy) {
        int pick = random.nextInt(100);
        if (pick < 2) {
            addFlow();
        } else if (pick < 8) {
            define(anyFlow(), tidy ? 3 : 25);
        } else if (pick < 10) {
            scribble();
        } else if (pick < 20) {
            check();
        } else if (pick < 40) {
            int flow = anyFlow();
            int value = chance(50) ? random.nextInt(3) - 1 : random.nextInt();
            Due.is(oracle.set(flow, value), desk.set(flow, value));
        } else if (pick < 70) {
            instants();
        } else {
            look();
        }
    }

    private void addFlow() {
        int flows = (int) oracle.flows();
        List<Integer> clocks = new ArrayList<>();
        clocks.add(0);
        for (int k = 0; k < flows; k++) {
            if (oracle.isBool(k)) {
                clocks.add(1 + 2 * k);
                clocks.add(2 + 2 * k);
            }
        }
        boolean bool = chance(50);
        boolean input = chance(40);
        int clock = chance(5) ? random.nextInt(30) - 2 : chance(40) ? 0 : clocks.get(random.nextInt(clocks.size()));
        Due.is(oracle.flow(bool, clock, input), desk.flow(bool, clock, input));
    }

    private void defineAll(int careless) {
        for (int flow = 0; flow < oracle.flows(); flow++) {
            if (!oracle.isInput(flow)) {
                define(flow, careless);
            }
        }
    }

    /** An equation that mostly keeps the rules; of a thousand of its expressions, some break one. */
    private void define(int flow, int careless) {
        boolean known = flow >= 0 && flow < oracle.flows();
        List<Integer> bytes = new ArrayList<>();
        boolean bool = known ? oracle.isBool(flow) : chance(50);
        int clock = known ? oracle.clockOf(flow) : 0;
        int limit = chance(10) ? 100 : 40;
        do {
            bytes.clear();
            write(bytes, bool, clock, chance(10) ? 11 : random.nextInt(6), new Around(flow, false, false), careless);
        } while (bytes.size() > limit);
        typeAll(bytes);
        Due.is(oracle.equation(flow), desk.equation(flow));
    }

    /** Where an expression stands: whose equation, within a BEFORE, and whether it may be nothing. */
    private static final class Around {
        final int flow;
        final boolean within;
        final boolean mayBeNothing;

        Around(int flow, boolean within, boolean mayBeNothing) {
            this.flow = flow;
            this.within = within;
            this.mayBeNothing = mayBeNothing;
        }

        Around nothing(boolean may) {
            return new Around(flow, within, may);
        }

        Around before() {
            return new Around(flow, true, false);
        }
    }

    private void write(List<Integer> bytes, boolean bool, int clock, int depth, Around around, int careless) {
        if (random.nextInt(1000) < careless) {
            breakRule(bytes, bool, clock, depth, around, careless);
            return;
        }
        if (depth <= 0) {
            leaf(bytes, bool, clock, around, careless);
            return;
        }
        int pick = random.nextInt(12);
        if (pick < 3 && writeSampling(bytes, bool, clock, depth, around, careless)) {
            return;
        }
        if (pick < 6) {
            bytes.add(15);
            write(bytes, bool, clock, depth - 1, around.nothing(false), careless);
            write(bytes, bool, clock, depth - 1, around.nothing(true), careless);
        } else if (pick < 8 && around.mayBeNothing) {
            bytes.add(14);
            write(bytes, bool, clock, depth - 1, around.before(), careless);
        } else if (pick == 8) {
            bytes.add(13);
            write(bytes, true, clock, depth - 1, around, careless);
            write(bytes, bool, clock, depth - 1, around, careless);
            write(bytes, bool, clock, depth - 1, around, careless);
        } else if (pick == 9) {
            bytes.add(bool ? 4 : 5);
            write(bytes, bool, clock, depth - 1, around, careless);
        } else {
            boolean compare = bool && chance(50);
            bytes.add(compare ? 9 + random.nextInt(2) : bool ? 11 + random.nextInt(2) : 6 + random.nextInt(3));
            write(bytes, bool && !compare, clock, depth - 1, around, careless);
            write(bytes, bool && !compare, clock, depth - 1, around, careless);
        }
    }

    private void breakRule(List<Integer> bytes, boolean bool, int clock, int depth, Around around, int careless) {
        int pick = random.nextInt(9);
        if (pick == 0) {
            write(bytes, !bool, clock, depth, around, careless);
        } else if (pick < 5) {
            write(bytes, bool, random.nextInt(1 + 2 * (int) oracle.flows()), depth, around, careless);
        } else {
            write(bytes, bool, clock, Math.max(2, depth), around.nothing(true), careless);
        }
    }

    private boolean writeSampling(List<Integer> bytes, boolean bool, int clock, int depth, Around around, int careless) {
        List<Integer> merges = new ArrayList<>();
        for (int k = 0; k < oracle.flows(); k++) {
            if (oracle.isBool(k) && oracle.clockOf(k) == clock && mayName(k, around, careless)) {
                merges.add(k);
            }
        }
        if (!merges.isEmpty() && (clock == 0 || chance(50))) {
            int k = merges.get(random.nextInt(merges.size()));
            bytes.add(18);
            bytes.add(k);
            write(bytes, bool, 1 + 2 * k, depth - 1, around, careless);
            write(bytes, bool, 2 + 2 * k, depth - 1, around, careless);
            return true;
        }
        if (clock == 0) {
            return false;
        }
        int k = (clock - 1) / 2;
        bytes.add(clock % 2 == 1 ? 16 : 17);
        bytes.add(k);
        write(bytes, bool, oracle.clockOf(k), depth - 1, around, careless);
        return true;
    }

    private boolean mayName(int k, Around around, int careless) {
        return k < around.flow || around.within || oracle.isInput(k) || random.nextInt(1000) < careless;
    }

    private void leaf(List<Integer> bytes, boolean bool, int clock, Around around, int careless) {
        List<Integer> names = new ArrayList<>();
        for (int k = 0; k < oracle.flows(); k++) {
            if (oracle.isBool(k) == bool && oracle.clockOf(k) == clock && mayName(k, around, careless)) {
                names.add(k);
            }
        }
        if (!names.isEmpty() && chance(80)) {
            bytes.add(3);
            bytes.add(names.get(random.nextInt(names.size())));
        } else if (bool) {
            bytes.add(1 + random.nextInt(2));
        } else {
            bytes.add(0);
            bytes.add(random.nextInt(256));
        }
    }

    /** Bytes that hardly ever are an equation. */
    private void scribble() {
        List<Integer> bytes = new ArrayList<>();
        int many = random.nextInt(8);
        for (int i = 0; i < many; i++) {
            bytes.add(chance(90) ? random.nextInt(20) : random.nextInt(256));
        }
        typeAll(bytes);
        int n = random.nextInt(12) - 2;
        if (chance(30)) {
            long packed = random.nextLong();
            Due.is(oracle.type(packed, n), desk.type(packed, n));
        }
        if (chance(50)) {
            int flow = anyFlow();
            Due.is(oracle.equation(flow), desk.equation(flow));
        }
    }

    private void typeAll(List<Integer> bytes) {
        int from = 0;
        while (from < bytes.size()) {
            int n = Math.min(1 + random.nextInt(8), bytes.size() - from);
            long packed = random.nextLong();
            for (int i = 0; i < n; i++) {
                packed = packed << 8 | bytes.get(from + i);
            }
            Due.is(oracle.type(packed, n), desk.type(packed, n));
            from += n;
        }
    }

    private void check() {
        long due = oracle.check();
        rules[(int) due]++;
        Due.is(due, desk.check());
        Due.is(oracle.fault(0), desk.fault(0));
        Due.is(oracle.fault(1), desk.fault(1));
        for (int k = -1; k <= oracle.flows(); k++) {
            Due.is(oracle.order(k), desk.order(k));
        }
    }

    private void instants() {
        int n = chance(5) ? random.nextInt(60) - 5 : 1 + random.nextInt(3);
        long due = oracle.instants(n);
        ran += due == 0 ? n : 0;
        Due.is(due, desk.instants(n));
        look();
    }

    private void look() {
        Due.is(oracle.time(), desk.time());
        Due.is(oracle.flows(), desk.flows());
        int what = random.nextInt(5) - 1;
        Due.is(oracle.fault(what), desk.fault(what));
        Due.is(oracle.order(what), desk.order(what));
        for (int flow = -1; flow <= oracle.flows(); flow++) {
            lookAt(flow);
        }
    }

    /** One of three questions: a run that asked all of them each time would soon be at its last call. */
    private void lookAt(int flow) {
        int pick = random.nextInt(4);
        if (pick == 0) {
            Due.is(oracle.present(flow), desk.present(flow));
        } else if (pick == 1) {
            Due.is(oracle.seen(flow), desk.seen(flow));
        } else {
            Due.is(oracle.value(flow), desk.value(flow));
        }
    }
}
