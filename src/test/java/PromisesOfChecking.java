/** Promises 5 to 7: check, fault, order. */
final class PromisesOfChecking extends Notation {
    private static final String WHERE = "Where the latest check failed: the flow (what 0), or the byte (1);";
    private static final String NOWHERE = "-1 when it did not, or was not made since something changed.";
    private static final String PLACED =
        "The flow that comes k-th (from 0) when flows with equations are put so that each comes behind all that it waits for,";

    private PromisesOfChecking() {
    }

    /** A bool input 0, an int input 1, and an int flow 2 with an equation, all on the basic clock. */
    private static Desk deskFor(int... bytes) {
        Desk desk = new Desk();
        desk.boolInput(0);
        desk.intInput(0);
        desk.define(desk.intFlow(0), bytes);
        return desk;
    }

    // Promise 5.

    @Says(under = "Promise 5", words = "Checks: 0, or the rule with which it fails.")
    static void checkTells0OrEachOfTheFiveRules() {
        Due.is(0, deskFor(number(1)).check());
        Due.is(2, deskFor(yes()).check());
        Due.is(3, deskFor(when(0, flow(1))).check());
        Due.is(4, deskFor(before(flow(1))).check());
        Due.is(5, deskFor(flow(2)).check());
        Desk desk = deskFor(flow(2));
        desk.intFlow(0);
        Due.is(1, desk.check());
    }

    @Says(under = "Promise 5", words = "Checks: 0, or the rule with which it fails.")
    static void checkTellsTheSameUntilSomethingChanges() {
        Desk desk = deskFor(yes());
        Due.is(2, desk.check());
        Due.is(2, desk.check());
        desk.define(2, flow(1));
        Due.is(0, desk.check());
        Due.is(0, desk.check());
        desk.define(2, flow(2));
        Due.is(5, desk.check());
        Due.is(5, desk.check());
    }

    @Says(under = "Promise 5", words = "The instants begin anew.")
    static void checkMakesTheInstantsBeginAnew() {
        Desk desk = deskFor(counter(2));
        desk.passes();
        desk.values(2, 1, 2, 3);
        desk.passes();
        desk.isAtTheBeginning();
        Due.is(2, desk.order(0));
        desk.values(2, 1, 2);
        Due.is(2, desk.time());
    }

    @Says(under = "Promise 5", words = "The instants begin anew.")
    static void whatClocksHaveHadBeginsAnewToo() {
        Desk desk = new Desk();
        int bool = desk.boolInput(0);
        int count = desk.intFlow(1);
        desk.define(count, counter(count));
        desk.host(bool, 1);
        desk.passes();
        desk.go(5);
        Due.is(5, desk.value(count));
        desk.host(bool, 0);
        desk.passes();
        desk.isAtTheBeginning();
        desk.go(1);
        Due.is(ELEMENT, desk.value(count));
        Due.is(0, desk.seen(count));
        desk.host(bool, 1);
        desk.go(2);
        Due.is(2, desk.value(count));
        Due.is(2, desk.seen(count));
    }

    // Promise 6.

    @Says(under = "Promise 6", words = WHERE)
    static void faultTellsTheFlowAndTheByte() {
        Desk desk = deskFor(add(number(1), add(number(2), yes())));
        Due.is(2, desk.check());
        Due.is(2, desk.fault(0));
        Due.is(6, desk.fault(1));
        desk.define(2, add(number(1), when(0, flow(1))));
        Due.is(3, desk.check());
        Due.is(2, desk.fault(0));
        Due.is(3, desk.fault(1));
        desk.define(2, first(number(1), before(before(number(1)))));
        Due.is(4, desk.check());
        Due.is(2, desk.fault(0));
        Due.is(3, desk.fault(1));
        desk.define(2, add(number(1), flow(2)));
        Due.is(5, desk.check());
        Due.is(2, desk.fault(0));
        Due.is(0, desk.fault(1));
    }

    @Says(under = "Promise 6", words = WHERE)
    static void faultTellsFlow0AndFlow11Too() {
        Desk desk = new Desk();
        for (int number = 0; number < 12; number++) {
            desk.intFlow(0);
        }
        desk.fails(1, 0, 0);
        for (int number = 0; number < 11; number++) {
            desk.define(number, number(1));
        }
        desk.fails(1, 11, 0);
        desk.define(11, minus(yes()));
        desk.fails(2, 11, 1);
    }

    @Says(under = "Promise 6", words = WHERE)
    static void faultStaysWhenNothingThatIsCheckedChanges() {
        Desk desk = deskFor(minus(yes()));
        desk.fails(2, 2, 1);
        desk.host(1, 5);
        desk.write(number(1));
        Due.is(STATE, desk.instants(1));
        Due.is(2, desk.fault(0));
        Due.is(1, desk.fault(1));
    }

    @Says(under = "Promise 6", words = NOWHERE)
    static void faultIsMinus1BeforeACheckAndAfterOneThatDidNotFail() {
        Desk desk = new Desk();
        Due.is(-1, desk.fault(0));
        Due.is(-1, desk.fault(1));
        desk.intFlow(0);
        desk.define(0, minus(yes()));
        Due.is(-1, desk.fault(0));
        Due.is(-1, desk.fault(1));
        desk.fails(2, 0, 1);
        desk.define(0, number(1));
        desk.passes();
        Due.is(-1, desk.fault(0));
        Due.is(-1, desk.fault(1));
    }

    @Says(under = "Promise 6", words = NOWHERE)
    static void faultIsMinus1WhenSomethingChangedSince() {
        Desk desk = deskFor(minus(yes()));
        desk.fails(2, 2, 1);
        desk.define(2, minus(yes()));
        Due.is(-1, desk.fault(0));
        Due.is(-1, desk.fault(1));
        desk.fails(2, 2, 1);
        desk.intInput(0);
        Due.is(-1, desk.fault(0));
        Due.is(-1, desk.fault(1));
    }

    @Says(under = "Promise 6", words = "IllegalArgumentException: there is no such what.")
    static void anotherWhatThan0And1IsRefused() {
        Desk desk = new Desk();
        for (int what : new int[] {-1, 2, 3, LOWEST, HIGHEST}) {
            Due.is(ARGUMENT, desk.fault(what));
        }
        Desk failed = deskFor(minus(yes()));
        failed.fails(2, 2, 1);
        failed.refuses(ARGUMENT,
            () -> failed.fault(-1), () -> failed.fault(2), () -> failed.fault(LOWEST), () -> failed.fault(HIGHEST));
        Desk passed = deskFor(number(1));
        passed.passes();
        passed.refuses(ARGUMENT, () -> passed.fault(-1), () -> passed.fault(2));
    }

    // Promise 7.

    private static void isOrder(Desk desk, int... due) {
        for (int k = 0; k < due.length; k++) {
            Due.is(due[k], desk.order(k));
        }
        Due.is(ELEMENT, desk.order(due.length));
    }

    @Says(under = "Promise 7", words = PLACED)
    static void eachFlowComesBehindThoseThatItWaitsFor() {
        Desk desk = new Desk();
        for (int number = 0; number < 12; number++) {
            desk.intFlow(0);
        }
        for (int number = 0; number < 11; number++) {
            desk.define(number, flow(number + 1));
        }
        desk.define(11, number(1));
        desk.passes();
        isOrder(desk, 11, 10, 9, 8, 7, 6, 5, 4, 3, 2, 1, 0);
    }

    @Says(under = "Promise 7", words = PLACED)
    static void inputsAreNotPlacedAndHoldNobodyUp() {
        // Flow 1 names input 4, which is on the clock of flow 3: so it comes behind flow 3, but 2 waits for no clock.
        Desk desk = new Desk();
        desk.boolInput(0);
        desk.intFlow(0);
        desk.boolFlow(0);
        desk.boolFlow(0);
        desk.intInput(7);
        desk.intInput(0);
        desk.define(1, merge(3, flow(4), number(0)));
        desk.define(2, less(flow(5), number(5)));
        desk.define(3, flow(0));
        desk.passes();
        isOrder(desk, 2, 3, 1);
    }

    @Says(under = "Promise 7", words = PLACED)
    static void whatStandsOnlyInBeforeIsNotWaitedForInTheOrder() {
        Desk desk = new Desk();
        desk.intFlow(0);
        desk.intFlow(0);
        desk.define(0, first(number(1), before(flow(1))));
        desk.define(1, flow(0));
        desk.passes();
        isOrder(desk, 0, 1);
        desk.define(0, first(flow(1), before(flow(1))));
        desk.define(1, number(1));
        desk.passes();
        isOrder(desk, 1, 0);
    }

    @Says(under = "Promise 7", words = "always the lowest that can.")
    static void alwaysTheLowestThatCanComesNext() {
        Desk desk = new Desk();
        for (int number = 0; number < 6; number++) {
            desk.flow(false, 0, number == 2);
        }
        desk.define(0, flow(5));
        desk.define(1, add(flow(0), flow(2)));
        desk.define(3, number(1));
        desk.define(4, flow(2));
        desk.define(5, flow(3));
        desk.passes();
        isOrder(desk, 3, 4, 5, 0, 1);
        desk.define(5, number(1));
        desk.passes();
        isOrder(desk, 3, 4, 5, 0, 1);
        desk.define(0, flow(3));
        desk.passes();
        isOrder(desk, 3, 0, 1, 4, 5);
        desk.define(0, number(1));
        desk.passes();
        isOrder(desk, 0, 1, 3, 4, 5);
    }

    @Says(under = "Promise 7", words = "IllegalStateException: it was not checked, or the check failed;")
    static void withoutACheckThatPassedThereIsNoOrder() {
        Desk desk = deskFor(yes());
        Due.is(STATE, desk.order(0));
        Due.is(2, desk.check());
        desk.refuses(STATE, () -> desk.order(0), () -> desk.order(1));
        desk.define(2, number(1));
        Due.is(STATE, desk.order(0));
        desk.passes();
        isOrder(desk, 2);
        desk.define(2, number(1));
        Due.is(STATE, desk.order(0));
        desk.passes();
        desk.intInput(0);
        Due.is(STATE, desk.order(0));
    }

    @Says(under = "Promise 7", words = "NoSuchElementException: there is none.")
    static void aPlaceBelow0OrBehindTheLastIsRefused() {
        Desk desk = deskFor(counter(2));
        desk.passes();
        desk.go(2);
        desk.refuses(ELEMENT, () -> desk.order(-1), () -> desk.order(1), () -> desk.order(2), () -> desk.order(12),
            () -> desk.order(LOWEST), () -> desk.order(HIGHEST));
        desk.values(2, 3);
        Desk inputs = new Desk();
        inputs.intInput(0);
        inputs.passes();
        Due.is(ELEMENT, inputs.order(0));
        Due.is(ELEMENT, inputs.order(-1));
    }

    @Says(under = "Promise 7",
        words = "IllegalStateException: it was not checked, or the check failed; NoSuchElementException: there is none.")
    static void ofTwoReasonsTheCheckIsToldBeforeThePlace() {
        Desk desk = deskFor(yes());
        for (int k : new int[] {-1, 1, 12, LOWEST, HIGHEST}) {
            Due.is(STATE, desk.order(k));
        }
        Due.is(2, desk.check());
        for (int k : new int[] {-1, 1, 12, LOWEST, HIGHEST}) {
            Due.is(STATE, desk.order(k));
        }
    }
}
