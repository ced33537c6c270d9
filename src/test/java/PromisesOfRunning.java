import java.util.function.IntToLongFunction;

/** Promises 8 to 13: set, instants, time, present, value, seen. */
final class PromisesOfRunning extends Notation {
    private static final String NO_FLOW = "IllegalArgumentException: there is no such flow";

    private PromisesOfRunning() {
    }

    /** Bool inputs 0 and 1, 1 where 0 is true; int inputs 2 where 0 is false, 3 and 4 where 1 is true and false. */
    private static Desk nested() {
        Desk desk = new Desk();
        desk.boolInput(0);
        desk.boolInput(1);
        desk.intInput(2);
        desk.intInput(3);
        desk.intInput(4);
        desk.passes();
        return desk;
    }

    /** A counter 0, an int input 1 and a bool input 2; checked, and some instants on. */
    private static Desk running() {
        Desk desk = new Desk();
        desk.define(desk.intFlow(0), counter(0));
        desk.intInput(0);
        desk.boolInput(0);
        desk.passes();
        desk.go(3);
        return desk;
    }

    private static void refusesNumbersOfNoFlow(Desk desk, IntToLongFunction call) {
        int many = (int) desk.flows();
        desk.refuses(ARGUMENT, () -> call.applyAsLong(-1), () -> call.applyAsLong(many), () -> call.applyAsLong(many + 1),
            () -> call.applyAsLong(12), () -> call.applyAsLong(LOWEST), () -> call.applyAsLong(HIGHEST));
    }

    // Promise 8.

    @Says(under = "Promise 8", words = "The host sets an input's value (for bools: whether it is not 0).")
    static void anIntIsTakenAsItIs() {
        Desk desk = running();
        for (int value : new int[] {0, 1, -1, 256, LOWEST, HIGHEST}) {
            desk.host(1, value);
            desk.values(1, value, value);
        }
    }

    @Says(under = "Promise 8", words = "The host sets an input's value (for bools: whether it is not 0).")
    static void aBoolIsWhetherItIsNot0() {
        Desk desk = running();
        for (int value : new int[] {1, 0, -1, 0, 2, 0, 256, 0, 65536, 0, LOWEST, 0, HIGHEST}) {
            desk.host(2, value);
            desk.values(2, value == 0 ? 0 : 1, value == 0 ? 0 : 1);
        }
        // And counts as such where it makes a clock, or is turned round.
        Desk made = new Desk();
        made.boolInput(0);
        made.intInput(1);
        made.define(made.boolFlow(0), not(flow(0)));
        made.host(0, -2);
        made.passes();
        made.go(1);
        Due.is(1, made.present(1));
        Due.is(0, made.value(2));
    }

    @Says(under = "Promise 8", words = "The host sets an input's value (for bools: whether it is not 0).")
    static void theHostMaySetBeforeACheckAndBetweenInstants() {
        Desk desk = new Desk();
        int input = desk.intInput(0);
        desk.host(input, 5);
        desk.passes();
        desk.host(input, 6);
        desk.values(input, 6);
        desk.host(input, 7);
        Due.is(6, desk.value(input));
        Due.is(1, desk.time());
        desk.values(input, 7);
        Due.is(2, desk.time());
    }

    @Says(under = "Promise 8", words = "IllegalArgumentException: there is no such input.")
    static void noSuchInputIsRefusedAndChangesNothing() {
        Desk desk = running();
        desk.host(1, 8);
        refusesNumbersOfNoFlow(desk, flow -> desk.set(flow, 9));
        desk.refuses(ARGUMENT, () -> desk.set(0, 9));
        desk.values(1, 8);
        Due.is(4, desk.value(0));
        int nothingYet = desk.intFlow(0);
        Due.is(ARGUMENT, desk.set(nothingYet, 9));
    }

    // Promise 9.

    @Says(under = "Promise 9", words = "n instants (1 .. 50).")
    static void from1To50InstantsGoBy() {
        Desk desk = running();
        int due = 3;
        for (int n : new int[] {1, 2, 49, 50, 50, 1}) {
            Due.is(DONE, desk.instants(n));
            due += n;
            Due.is(due, desk.time());
            Due.is(due, desk.value(0));
            Due.is(due, desk.seen(0));
        }
    }

    @Says(under = "Promise 9", words = "n instants (1 .. 50).")
    static void manyInstantsAtOnceAreAsManyOneByOne() {
        Desk once = running();
        Desk oneByOne = running();
        once.go(50);
        for (int i = 0; i < 50; i++) {
            oneByOne.go(1);
        }
        Due.is(53, once.value(0));
        Due.is(53, oneByOne.value(0));
    }

    @Says(under = "Promise 9", words = "IllegalArgumentException: n is not so;")
    static void fewerThan1OrMoreThan50AreRefusedAndNoneGoesBy() {
        Desk desk = running();
        desk.host(1, 4);
        desk.refuses(ARGUMENT, () -> desk.instants(0), () -> desk.instants(51), () -> desk.instants(-1), () -> desk.instants(52),
            () -> desk.instants(100), () -> desk.instants(LOWEST), () -> desk.instants(HIGHEST));
        desk.values(0, 4);
    }

    @Says(under = "Promise 9", words = "IllegalStateException: it was not checked, or the check failed.")
    static void withoutACheckThatPassedNoneGoesBy() {
        Desk desk = running();
        desk.define(0, yes());
        desk.refuses(STATE, () -> desk.instants(1), () -> desk.instants(50));
        Due.is(2, desk.check());
        desk.refuses(STATE, () -> desk.instants(1), () -> desk.instants(50));
        desk.define(0, counter(0));
        desk.refuses(STATE, () -> desk.instants(1), () -> desk.instants(50));
        desk.passes();
        desk.values(0, 1);
    }

    @Says(under = "Promise 9",
        words = "IllegalArgumentException: n is not so; IllegalStateException: it was not checked, or the check failed.")
    static void ofTwoReasonsNIsToldBeforeTheCheck() {
        Desk desk = new Desk();
        desk.intFlow(0);
        for (int n : new int[] {0, 51, -1, LOWEST, HIGHEST}) {
            Due.is(ARGUMENT, desk.instants(n));
        }
        Due.is(1, desk.check());
        for (int n : new int[] {0, 51, -1, LOWEST, HIGHEST}) {
            Due.is(ARGUMENT, desk.instants(n));
        }
    }

    // Promise 10.

    @Says(under = "Promise 10", words = "How many instants there were.")
    static void timeTellsTheInstantsSinceTheyBegan() {
        Desk desk = new Desk();
        Due.is(0, desk.time());
        desk.boolInput(0);
        desk.intInput(1);
        Due.is(0, desk.time());
        desk.passes();
        Due.is(0, desk.time());
        desk.go(1);
        Due.is(1, desk.time());
        desk.go(50);
        Due.is(51, desk.time());
        desk.host(0, 1);
        desk.go(4);
        Due.is(55, desk.time());
        desk.passes();
        Due.is(0, desk.time());
        desk.go(2);
        Due.is(2, desk.time());
    }

    // Promise 11.

    private static void there(Desk desk, int... due) {
        for (int flow = 0; flow < due.length; flow++) {
            Due.is(due[flow], desk.present(flow));
        }
    }

    @Says(under = "Promise 11", words = "Whether a flow was there at the latest instant.")
    static void presentTellsOfTheLatestInstant() {
        Desk desk = nested();
        there(desk, 0, 0, 0, 0, 0);
        desk.go(1);
        there(desk, 1, 0, 1, 0, 0);
        desk.host(0, 1);
        there(desk, 1, 0, 1, 0, 0);
        desk.go(1);
        there(desk, 1, 1, 0, 0, 1);
        desk.host(1, 1);
        desk.go(1);
        there(desk, 1, 1, 0, 1, 0);
        desk.host(0, 0);
        desk.go(1);
        there(desk, 1, 0, 1, 0, 0);
    }

    @Says(under = "Promise 11", words = "Whether a flow was there at the latest instant.")
    static void beforeTheFirstInstantNoFlowIsThere() {
        Desk desk = nested();
        desk.go(2);
        desk.passes();
        there(desk, 0, 0, 0, 0, 0);
        desk.go(2);
        desk.intFlow(0);
        there(desk, 0, 0, 0, 0, 0, 0);
    }

    @Says(under = "Promise 11", words = NO_FLOW)
    static void presentOfNoFlowIsRefused() {
        Desk desk = running();
        refusesNumbersOfNoFlow(desk, desk::present);
    }

    // Promise 12.

    @Says(under = "Promise 12", words = "Its value at the latest instant at which it was there (1 for true).")
    static void valueStaysWhileAFlowIsAbsent() {
        Desk desk = nested();
        desk.host(2, 22);
        desk.go(1);
        Due.is(22, desk.value(2));
        desk.host(0, 1);
        desk.host(2, 23);
        desk.go(5);
        Due.is(0, desk.present(2));
        Due.is(22, desk.value(2));
        desk.host(0, 0);
        desk.go(1);
        Due.is(23, desk.value(2));
    }

    @Says(under = "Promise 12", words = "Its value at the latest instant at which it was there (1 for true).")
    static void trueIs1AndFalse0() {
        Desk desk = nested();
        desk.host(0, -7);
        desk.go(1);
        Due.is(1, desk.value(0));
        Due.is(0, desk.value(1));
        desk.host(1, HIGHEST);
        desk.go(1);
        Due.is(1, desk.value(1));
        Desk made = new Desk();
        made.define(made.boolFlow(0), less(number(1), number(2)));
        made.define(made.boolFlow(0), not(flow(0)));
        made.passes();
        made.go(1);
        Due.is(1, made.value(0));
        Due.is(0, made.value(1));
    }

    @Says(under = "Promise 12", words = NO_FLOW)
    static void valueOfNoFlowIsRefused() {
        Desk desk = running();
        refusesNumbersOfNoFlow(desk, desk::value);
        desk.passes();
        refusesNumbersOfNoFlow(desk, desk::value);
    }

    @Says(under = "Promise 12", words = "NoSuchElementException: it was never there since the instants began.")
    static void aFlowThatWasNeverThereHasNoValue() {
        Desk desk = nested();
        desk.refuses(ELEMENT,
            () -> desk.value(0), () -> desk.value(1), () -> desk.value(2), () -> desk.value(3), () -> desk.value(4));
        desk.go(50);
        Due.is(0, desk.value(0));
        Due.is(ELEMENT, desk.value(1));
        Due.is(0, desk.value(2));
        Due.is(ELEMENT, desk.value(3));
        Due.is(ELEMENT, desk.value(4));
        desk.host(0, 1);
        desk.go(1);
        Due.is(0, desk.value(1));
        Due.is(ELEMENT, desk.value(3));
        Due.is(0, desk.value(4));
    }

    @Says(under = "Promise 12", words = "NoSuchElementException: it was never there since the instants began.")
    static void whatWasThereBeforeTheyBeganAnewDoesNotCount() {
        Desk desk = running();
        Due.is(3, desk.value(0));
        desk.passes();
        Due.is(ELEMENT, desk.value(0));
        desk.go(1);
        Due.is(1, desk.value(0));
        desk.intInput(0);
        Due.is(ELEMENT, desk.value(0));
        desk.passes();
        desk.go(1);
        desk.define(0, counter(0));
        Due.is(ELEMENT, desk.value(0));
    }

    // Promise 13.

    private static void had(Desk desk, int... due) {
        for (int flow = 0; flow < due.length; flow++) {
            Due.is(due[flow], desk.seen(flow));
        }
    }

    @Says(under = "Promise 13", words = "How many instants of its own clock a flow has had.")
    static void seenTellsTheInstantsOfItsOwnClock() {
        Desk desk = nested();
        had(desk, 0, 0, 0, 0, 0);
        desk.go(3);
        had(desk, 3, 0, 3, 0, 0);
        desk.host(0, 1);
        desk.go(4);
        had(desk, 7, 4, 3, 0, 4);
        desk.host(1, 1);
        desk.go(5);
        had(desk, 12, 9, 3, 5, 4);
        desk.host(0, 0);
        desk.go(50);
        had(desk, 62, 9, 53, 5, 4);
        desk.passes();
        had(desk, 0, 0, 0, 0, 0);
        desk.go(1);
        had(desk, 1, 0, 1, 0, 0);
    }

    @Says(under = "Promise 13", words = NO_FLOW)
    static void seenOfNoFlowIsRefused() {
        Desk desk = running();
        refusesNumbersOfNoFlow(desk, desk::seen);
    }
}
