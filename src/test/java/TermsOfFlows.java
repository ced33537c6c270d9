/** The terms: flows, their clocks, and what they may be. */
final class TermsOfFlows extends Notation {
    private TermsOfFlows() {
    }

    @Says(under = "What it is", words = "An object is used for at most 512 calls after it has been made")
    static void the512thCallIsAnsweredLikeTheFirst() {
        Desk desk = new Desk();
        int count = desk.intFlow(0);
        desk.define(count, counter(count));
        desk.passes();
        int instants = 0;
        while (desk.callsLeft() > 3) {
            desk.go(50);
            instants += 50;
        }
        Due.is(instants, desk.time());
        Due.is(instants, desk.seen(count));
        Due.is(instants, desk.value(count));
        Due.same("calls left", 0, desk.callsLeft());
    }

    @Says(under = "Terms", words = "FLOWS are numbered 0, 1, .., at most 12")
    static void twelveFlowsAreNumberedFrom0AndThereIsNo13th() {
        Desk desk = new Desk();
        for (int number = 0; number < 12; number++) {
            Due.is(number, desk.flow(number % 2 == 0, 0, number % 3 == 0));
        }
        Due.is(STATE, desk.flow(true, 0, true));
        Due.is(12, desk.flows());
    }

    @Says(under = "Terms", words = "each is of INTs or BOOLs")
    static void aFlowIsOfIntsOrOfBools() {
        Desk desk = new Desk();
        int ofBools = desk.boolInput(0);
        int ofInts = desk.intInput(0);
        desk.host(ofBools, 7);
        desk.host(ofInts, 7);
        desk.passes();
        desk.go(1);
        Due.is(1, desk.value(ofBools));
        Due.is(7, desk.value(ofInts));
        int equation = desk.boolFlow(0);
        desk.define(equation, flow(ofInts));
        desk.fails(2, equation, 0);
        desk.define(equation, flow(ofBools));
        desk.passes();
    }

    @Says(under = "Terms", words = "and has a CLOCK: 0, the basic one, which has all instants")
    static void theBasicClockHasAllInstants() {
        Desk desk = new Desk();
        int input = desk.boolInput(0);
        int equation = desk.intFlow(0);
        desk.define(equation, number(3));
        desk.passes();
        for (int instant = 1; instant <= 5; instant++) {
            desk.host(input, instant % 2);
            desk.go(1);
            Due.is(1, desk.present(input));
            Due.is(1, desk.present(equation));
            Due.is(instant, desk.seen(input));
            Due.is(instant, desk.seen(equation));
        }
        desk.go(50);
        Due.is(55, desk.seen(equation));
    }

    /** An input on a clock of an input before it, and whether it is there when that one is true, false, .. */
    private static void isThereWhere(Desk desk, int k, int clock, boolean isTrue) {
        int sampled = desk.intInput(clock);
        desk.passes();
        int had = 0;
        for (int value : new int[] {0, 1, -1, 0, 0, 1}) {
            boolean there = (value != 0) == isTrue;
            had += there ? 1 : 0;
            desk.host(k, value);
            desk.go(1);
            Due.is(there ? 1 : 0, desk.present(sampled));
            Due.is(had, desk.seen(sampled));
        }
    }

    private static Desk deskOfBools(int many) {
        Desk desk = new Desk();
        for (int number = 0; number < many; number++) {
            desk.boolInput(0);
        }
        return desk;
    }

    @Says(under = "Terms", words = "1 + 2 k, the instants of flow k at which it is true")
    static void clock1Plus2kHasTheInstantsAtWhichKIsTrue() {
        isThereWhere(deskOfBools(1), 0, 1, true);
        isThereWhere(deskOfBools(2), 0, 1, true);
        isThereWhere(deskOfBools(2), 1, 3, true);
        isThereWhere(deskOfBools(11), 10, 21, true);
    }

    @Says(under = "Terms", words = "2 + 2 k, those at which it is false")
    static void clock2Plus2kHasTheInstantsAtWhichKIsFalse() {
        isThereWhere(deskOfBools(1), 0, 2, false);
        isThereWhere(deskOfBools(2), 0, 2, false);
        isThereWhere(deskOfBools(2), 1, 4, false);
        isThereWhere(deskOfBools(11), 10, 22, false);
    }

    @Says(under = "Terms", words = "(k an earlier flow of bools")
    static void theFlowOfAClockIsEarlierAndOfBools() {
        Desk desk = new Desk();
        Due.is(ARGUMENT, desk.flow(true, 1, true));
        Due.is(ARGUMENT, desk.flow(true, 2, true));
        Due.is(0, desk.flow(true, 0, false));
        Due.is(ARGUMENT, desk.flow(true, 3, true));
        Due.is(ARGUMENT, desk.flow(true, 4, true));
        Due.is(1, desk.flow(false, 2, true));
        Due.is(ARGUMENT, desk.flow(true, 3, true));
        Due.is(ARGUMENT, desk.flow(true, 4, true));
        Due.is(2, desk.flow(true, 1, true));
        Due.is(3, desk.flow(true, 6, true));
    }

    @Says(under = "Terms", words = "its instants are those of its own clock).")
    static void whereKIsAbsentNeitherOfItsClocksHasTheInstant() {
        Desk desk = new Desk();
        int outer = desk.boolInput(0);
        int inner = desk.boolInput(1);
        int whereTrue = desk.intInput(3);
        int whereFalse = desk.intInput(4);
        desk.passes();
        int[][] steps = {
            // outer and inner as set; then whether whereTrue and whereFalse are there.
            {0, 0, 0, 0}, {0, 1, 0, 0}, {1, 0, 0, 1}, {0, 0, 0, 0}, {1, 1, 1, 0}, {0, 1, 0, 0}, {0, 0, 0, 0}, {1, 0, 0, 1},
        };
        for (int[] step : steps) {
            desk.host(outer, step[0]);
            desk.host(inner, step[1]);
            desk.go(1);
            Due.is(step[2], desk.present(whereTrue));
            Due.is(step[3], desk.present(whereFalse));
        }
        Due.is(1, desk.seen(whereTrue));
        Due.is(2, desk.seen(whereFalse));
        Due.is(3, desk.seen(inner));
    }

    @Says(under = "Terms", words = "its instants are those of its own clock).")
    static void elevenClocksMayStandOnOneAnother() {
        Desk desk = new Desk();
        for (int number = 0; number < 12; number++) {
            desk.boolInput(number == 0 ? 0 : 2 * number - 1);
            desk.host(number, 1);
        }
        desk.passes();
        desk.go(2);
        Due.is(2, desk.seen(11));
        desk.host(5, 0);
        desk.go(3);
        for (int number = 0; number < 12; number++) {
            Due.is(number <= 5 ? 1 : 0, desk.present(number));
            Due.is(number <= 5 ? 5 : 2, desk.seen(number));
        }
    }

    @Says(under = "Terms", words = "A flow is an INPUT, which has a value from the host, or has an EQUATION, or nothing yet.")
    static void aFlowIsAnInputOrHasAnEquationOrNothing() {
        Desk desk = new Desk();
        int input = desk.intInput(0);
        int flow = desk.intFlow(0);
        Due.is(DONE, desk.set(input, 4));
        Due.is(ARGUMENT, desk.set(flow, 4));
        desk.fails(1, flow, 0);
        desk.write(number(5));
        Due.is(ARGUMENT, desk.equation(input));
        desk.define(flow, number(5));
        Due.is(ARGUMENT, desk.set(flow, 4));
        desk.passes();
        desk.go(1);
        Due.is(4, desk.value(input));
        Due.is(5, desk.value(flow));
    }
}
