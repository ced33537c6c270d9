/** The terms: the five rules of checking, each with where it fails. */
final class TermsOfChecking extends Notation {
    private static final String IN_ORDER =
        "CHECKING looks at all flows, in order, by these rules, the first rule for all flows before the second, and so on;";
    private static final String LOWEST_BYTE =
        "it FAILS with the number of the rule, at the flow, and the lowest byte of its equation (0 for 1 and 5) at which:";

    private static final int BOOL_INPUT = 0;
    private static final int INT_INPUT = 1;
    private static final int WHERE_TRUE = 2;
    private static final int WHERE_FALSE = 3;
    private static final int INT = 4;
    private static final int BOOL = 5;
    private static final int BOOL_WHERE_TRUE = 6;
    private static final int BOOL_WHERE_FALSE = 7;

    private TermsOfChecking() {
    }

    /** The flows that are named above, with equations that pass; two on the clocks of BOOL_INPUT of each type. */
    private static Desk variety() {
        Desk desk = new Desk();
        desk.boolInput(0);
        desk.intInput(0);
        desk.define(desk.intFlow(1), number(1));
        desk.define(desk.intFlow(2), number(1));
        desk.define(desk.intFlow(0), number(1));
        desk.define(desk.boolFlow(0), yes());
        desk.define(desk.boolFlow(1), yes());
        desk.define(desk.boolFlow(2), yes());
        return desk;
    }

    private static void fails(int rule, int flow, int at, int... bytes) {
        Desk desk = variety();
        desk.define(flow, bytes);
        desk.fails(rule, flow, at);
    }

    private static void passes(int flow, int... bytes) {
        Desk desk = variety();
        desk.define(flow, bytes);
        desk.fails(0, -1, -1);
    }

    // The order of the rules, and what a failure tells.

    @Says(under = "Terms", words = IN_ORDER)
    static void theFirstRuleForAllFlowsComesBeforeTheSecond() {
        Desk desk = new Desk();
        int bool = desk.boolInput(0);
        int number = desk.intInput(0);
        for (int flow = 2; flow < 7; flow++) {
            desk.intFlow(0);
        }
        desk.define(2, flow(2));
        desk.define(3, before(flow(number)));
        desk.define(4, when(bool, flow(number)));
        desk.define(5, add(number(1), flow(bool)));
        desk.fails(1, 6, 0);
        desk.define(6, number(1));
        desk.fails(2, 5, 3);
        desk.define(5, number(1));
        desk.fails(3, 4, 0);
        desk.define(4, number(1));
        desk.fails(4, 3, 0);
        desk.define(3, number(1));
        desk.fails(5, 2, 0);
        desk.define(2, number(1));
        desk.passes();
    }

    @Says(under = "Terms", words = IN_ORDER)
    static void theLowestOfTwoFlowsWithOneFaultIsTold() {
        int[][] faulty = {yes(), when(0, number(1)), before(number(1))};
        for (int i = 0; i < faulty.length; i++) {
            Desk desk = new Desk();
            desk.boolInput(0);
            for (int flow = 1; flow < 12; flow++) {
                desk.define(desk.intFlow(0), number(1));
            }
            desk.define(11, faulty[i]);
            desk.fails(2 + i, 11, 0);
            desk.define(4, faulty[i]);
            desk.fails(2 + i, 4, 0);
            desk.define(1, faulty[i]);
            desk.fails(2 + i, 1, 0);
        }
    }

    @Says(under = "Terms", words = LOWEST_BYTE)
    static void theLowestByteOfSeveralIsTold() {
        fails(2, INT, 2, add(minus(yes()), minus(yes())));
        fails(2, INT, 4, add(minus(number(1)), yes()));
        fails(3, INT, 2, add(minus(flow(WHERE_TRUE)), minus(flow(WHERE_FALSE))));
        fails(3, INT, 5, add(minus(flow(INT_INPUT)), minus(flow(WHERE_FALSE))));
        fails(4, INT, 4, first(number(1), add(before(before(number(1))), before(before(number(1))))));
        fails(4, INT, 8, first(number(1), add(before(number(1)), minus(before(before(number(1)))))));
    }

    @Says(under = "Terms", words = LOWEST_BYTE)
    static void aByteAtTheEndOf40IsToldToo() {
        fails(2, INT, 39, fortyBytes(minus(yes())));
        fails(2, INT, 38, fortyBytes(flow(BOOL_INPUT)));
        fails(3, INT, 38, fortyBytes(flow(WHERE_TRUE)));
    }

    @Says(under = "Terms", words = LOWEST_BYTE)
    static void theByteIs0ForRules1And5() {
        Desk desk = variety();
        int late = desk.intFlow(0);
        desk.fails(1, late, 0);
        desk.define(late, add(number(1), minus(flow(late))));
        desk.fails(5, late, 0);
    }

    // Rule 1.

    @Says(under = "Terms", words = "1 a flow that is not an input has no equation.")
    static void eachFlowThatIsNoInputNeedsAnEquation() {
        Desk desk = new Desk();
        desk.passes();
        desk.boolInput(0);
        desk.passes();
        desk.intFlow(0);
        desk.boolFlow(1);
        desk.intInput(2);
        desk.fails(1, 1, 0);
        desk.define(2, yes());
        desk.fails(1, 1, 0);
        desk.define(1, number(1));
        desk.passes();
        desk.write(19);
        Due.is(ARGUMENT, desk.equation(1));
        desk.passes();
    }

    // Rule 2.

    @Says(under = "Terms",
        words = "2 TYPES: an expression is not of the type that it must be (that of the flow for the whole equation;")
    static void theWholeEquationIsOfTheTypeOfItsFlow() {
        int[][] ints = {
            number(1), flow(INT_INPUT), minus(number(1)), add(number(1), number(1)), subtract(number(1), number(1)),
            multiply(number(1), number(1)),
        };
        for (int[] bytes : ints) {
            passes(INT, bytes);
            fails(2, BOOL, 0, bytes);
        }
        int[][] bools = {
            yes(), no(), flow(BOOL_INPUT), not(yes()), less(number(1), number(1)), equal(number(1), number(1)), and(yes(), yes()),
            or(yes(), yes()),
        };
        for (int[] bytes : bools) {
            passes(BOOL, bytes);
            fails(2, INT, 0, bytes);
        }
    }

    @Says(under = "Terms",
        words = "2 TYPES: an expression is not of the type that it must be (that of the flow for the whole equation;")
    static void whatMayBeOfAnyTypeHandsOnWhatTheWholeMustBe() {
        fails(2, INT, 1, first(yes(), no()));
        fails(2, BOOL, 1, first(number(1), number(2)));
        fails(2, INT, 4, first(number(1), before(flow(BOOL_INPUT))));
        fails(2, INT, 5, add(number(1), choose(yes(), yes(), number(1))));
        fails(2, WHERE_TRUE, 2, when(BOOL_INPUT, yes()));
        fails(2, BOOL_WHERE_TRUE, 2, when(BOOL_INPUT, number(1)));
        fails(2, WHERE_FALSE, 2, unless(BOOL_INPUT, flow(BOOL_INPUT)));
        fails(2, BOOL_WHERE_FALSE, 2, unless(BOOL_INPUT, flow(INT_INPUT)));
    }

    @Says(under = "Terms",
        words = "for FLOW, WHEN, UNLESS and MERGE that of the flow k, which is at the byte of these): "
            + "the byte is that of the expression that is of another one.")
    static void theTypeOfTheFlowKIsTheOneAtTheByteOfTheseKinds() {
        fails(2, INT, 3, add(number(1), flow(BOOL_INPUT)));
        fails(2, BOOL, 2, and(yes(), flow(INT_INPUT)));
        fails(2, WHERE_TRUE, 0, when(INT_INPUT, number(1)));
        fails(2, WHERE_FALSE, 0, unless(INT_INPUT, number(1)));
        fails(2, INT, 0, merge(INT_INPUT, number(1), number(1)));
        fails(2, WHERE_TRUE, 3, add(number(1), when(INT_INPUT, number(1))));
        fails(2, WHERE_FALSE, 3, add(number(1), unless(INT_INPUT, yes())));
        fails(2, INT, 3, add(number(1), merge(INT, yes(), yes())));
        // Its clock is a wrong one as well, but that is for the next rule.
        fails(2, INT, 0, when(INT_INPUT, flow(INT_INPUT)));
    }

    @Says(under = "Terms",
        words = "(In IF, FIRST and MERGE, where any type may stand, both must be of the type that the whole must be.")
    static void bothPartsOfIfFirstAndMergeAreOfTheTypeOfTheWhole() {
        passes(INT, choose(yes(), number(1), number(2)));
        passes(BOOL, choose(yes(), yes(), no()));
        fails(2, INT, 2, choose(yes(), yes(), number(1)));
        fails(2, INT, 4, choose(yes(), number(1), yes()));
        fails(2, BOOL, 2, choose(yes(), number(1), number(1)));
        fails(2, BOOL, 3, choose(yes(), yes(), number(1)));
        passes(INT, first(number(1), number(2)));
        passes(BOOL, first(yes(), no()));
        fails(2, INT, 1, first(yes(), number(1)));
        fails(2, INT, 3, first(number(1), yes()));
        fails(2, BOOL, 1, first(number(1), number(1)));
        fails(2, BOOL, 2, first(yes(), number(1)));
        passes(INT, merge(BOOL_INPUT, number(1), number(2)));
        passes(BOOL, merge(BOOL_INPUT, yes(), no()));
        fails(2, INT, 2, merge(BOOL_INPUT, yes(), number(1)));
        fails(2, INT, 4, merge(BOOL_INPUT, number(1), yes()));
        fails(2, BOOL, 2, merge(BOOL_INPUT, number(1), number(1)));
        fails(2, BOOL, 3, merge(BOOL_INPUT, yes(), number(1)));
    }

    @Says(under = "Terms", words = "EQUAL and LESS want ints.)")
    static void equalAndLessWantInts() {
        fails(2, BOOL, 1, equal(yes(), yes()));
        fails(2, BOOL, 1, equal(flow(BOOL_INPUT), flow(BOOL_INPUT)));
        fails(2, BOOL, 3, equal(number(1), yes()));
        fails(2, BOOL, 1, less(no(), yes()));
        fails(2, BOOL, 3, less(number(1), flow(BOOL_INPUT)));
        fails(2, BOOL, 2, equal(first(yes(), yes()), number(1)));
        fails(2, BOOL, 6, less(number(1), first(number(1), no())));
    }

    // Rule 3.

    @Says(under = "Terms", words = "3 CLOCKS: NUMBER, TRUE and FALSE have any clock;")
    static void numberTrueAndFalseHaveAnyClock() {
        for (int flow : new int[] {INT, WHERE_TRUE, WHERE_FALSE}) {
            passes(flow, number(5));
            passes(flow, choose(yes(), number(5), choose(no(), number(6), number(7))));
        }
        for (int flow : new int[] {BOOL, BOOL_WHERE_TRUE, BOOL_WHERE_FALSE}) {
            passes(flow, yes());
            passes(flow, or(no(), less(number(1), number(2))));
        }
        passes(WHERE_TRUE, when(BOOL_INPUT, number(5)));
        passes(INT, merge(BOOL_INPUT, number(5), number(6)));
        passes(BOOL, merge(BOOL_INPUT, yes(), no()));
    }

    @Says(under = "Terms", words = "FLOW that of its flow;")
    static void flowHasTheClockOfItsFlow() {
        passes(INT, flow(INT_INPUT));
        fails(3, WHERE_TRUE, 0, flow(INT_INPUT));
        fails(3, WHERE_FALSE, 0, flow(INT_INPUT));
        fails(3, INT, 0, flow(WHERE_TRUE));
        fails(3, INT, 0, flow(WHERE_FALSE));
        fails(3, WHERE_FALSE, 0, flow(WHERE_TRUE));
        fails(3, WHERE_TRUE, 0, flow(WHERE_FALSE));
        Desk desk = variety();
        int other = desk.intFlow(1);
        desk.define(other, flow(WHERE_TRUE));
        desk.passes();
    }

    @Says(under = "Terms",
        words = "WHEN k and UNLESS k have the clock 1 + 2 k and 2 + 2 k, and want their e on the clock of k;")
    static void whenAndUnlessHaveTheClocksOfKAndWantTheirEOnThatOfK() {
        passes(WHERE_TRUE, when(BOOL_INPUT, flow(INT_INPUT)));
        fails(3, INT, 0, when(BOOL_INPUT, flow(INT_INPUT)));
        fails(3, WHERE_FALSE, 0, when(BOOL_INPUT, flow(INT_INPUT)));
        fails(3, WHERE_TRUE, 2, when(BOOL_INPUT, flow(WHERE_TRUE)));
        fails(3, WHERE_TRUE, 2, when(BOOL_INPUT, flow(WHERE_FALSE)));
        fails(3, WHERE_TRUE, 0, when(BOOL, flow(INT_INPUT)));
        passes(WHERE_FALSE, unless(BOOL_INPUT, flow(INT_INPUT)));
        fails(3, INT, 0, unless(BOOL_INPUT, flow(INT_INPUT)));
        fails(3, WHERE_TRUE, 0, unless(BOOL_INPUT, flow(INT_INPUT)));
        fails(3, WHERE_FALSE, 2, unless(BOOL_INPUT, flow(WHERE_FALSE)));
        fails(3, WHERE_FALSE, 2, unless(BOOL_INPUT, flow(WHERE_TRUE)));
        fails(3, WHERE_FALSE, 0, unless(BOOL, flow(INT_INPUT)));
    }

    @Says(under = "Terms",
        words = "WHEN k and UNLESS k have the clock 1 + 2 k and 2 + 2 k, and want their e on the clock of k;")
    static void whenAndUnlessOfAFlowThatIsItselfOnAClock() {
        Desk desk = variety();
        int deepTrue = desk.intFlow(1 + 2 * BOOL_WHERE_TRUE);
        int deepFalse = desk.intFlow(2 + 2 * BOOL_WHERE_TRUE);
        desk.define(deepTrue, when(BOOL_WHERE_TRUE, flow(WHERE_TRUE)));
        desk.define(deepFalse, unless(BOOL_WHERE_TRUE, when(BOOL_INPUT, flow(INT_INPUT))));
        desk.passes();
        desk.define(deepTrue, when(BOOL_WHERE_TRUE, flow(INT_INPUT)));
        desk.fails(3, deepTrue, 2);
        desk.define(deepTrue, when(BOOL_WHERE_TRUE, flow(deepFalse)));
        desk.fails(3, deepTrue, 2);
        desk.define(deepTrue, unless(BOOL_WHERE_TRUE, flow(WHERE_TRUE)));
        desk.fails(3, deepTrue, 0);
    }

    @Says(under = "Terms", words = "MERGE k has the clock of k and wants e on 1 + 2 k, f on 2 + 2 k;")
    static void mergeHasTheClockOfKAndWantsItsPartsOnTheTwoClocksOfK() {
        passes(INT, merge(BOOL_INPUT, flow(WHERE_TRUE), flow(WHERE_FALSE)));
        passes(INT, merge(BOOL_INPUT, when(BOOL_INPUT, flow(INT_INPUT)), unless(BOOL_INPUT, flow(INT_INPUT))));
        fails(3, WHERE_TRUE, 0, merge(BOOL_INPUT, flow(WHERE_TRUE), flow(WHERE_FALSE)));
        fails(3, INT, 2, merge(BOOL_INPUT, flow(INT_INPUT), flow(WHERE_FALSE)));
        fails(3, INT, 2, merge(BOOL_INPUT, flow(WHERE_FALSE), flow(WHERE_TRUE)));
        fails(3, INT, 4, merge(BOOL_INPUT, flow(WHERE_TRUE), flow(INT_INPUT)));
        fails(3, INT, 4, merge(BOOL_INPUT, flow(WHERE_TRUE), flow(WHERE_TRUE)));
        fails(3, INT, 2, merge(BOOL, flow(WHERE_TRUE), flow(WHERE_FALSE)));
        fails(3, INT, 0, merge(BOOL_WHERE_TRUE, number(1), number(1)));
        passes(WHERE_TRUE, merge(BOOL_WHERE_TRUE, number(1), number(1)));
    }

    @Says(under = "Terms", words = "others want all their expressions on their own clock;")
    static void othersWantAllTheirExpressionsOnTheirOwnClock() {
        int[] off = flow(WHERE_TRUE);
        int[] offBool = flow(BOOL_WHERE_TRUE);
        fails(3, BOOL, 1, not(offBool));
        fails(3, INT, 1, minus(off));
        fails(3, INT, 1, add(off, number(1)));
        fails(3, INT, 3, add(number(1), off));
        fails(3, INT, 1, subtract(off, number(1)));
        fails(3, INT, 3, subtract(number(1), off));
        fails(3, INT, 1, multiply(off, number(1)));
        fails(3, INT, 3, multiply(number(1), off));
        fails(3, BOOL, 1, less(off, number(1)));
        fails(3, BOOL, 3, less(number(1), off));
        fails(3, BOOL, 1, equal(off, number(1)));
        fails(3, BOOL, 3, equal(number(1), off));
        fails(3, BOOL, 1, and(offBool, yes()));
        fails(3, BOOL, 2, and(yes(), offBool));
        fails(3, BOOL, 1, or(offBool, yes()));
        fails(3, BOOL, 2, or(yes(), offBool));
        fails(3, INT, 1, choose(offBool, number(1), number(1)));
        fails(3, INT, 2, choose(yes(), off, number(1)));
        fails(3, INT, 4, choose(yes(), number(1), off));
        fails(3, INT, 4, first(number(1), before(off)));
        fails(3, INT, 1, first(off, number(1)));
        fails(3, INT, 3, first(number(1), off));
    }

    @Says(under = "Terms", words = "an equation is wanted on the clock of its flow.")
    static void anEquationIsWantedOnTheClockOfItsFlow() {
        fails(3, WHERE_TRUE, 1, minus(flow(INT_INPUT)));
        fails(3, WHERE_TRUE, 3, add(number(1), flow(INT)));
        passes(WHERE_TRUE, add(number(1), when(BOOL_INPUT, flow(INT))));
        passes(INT, add(number(1), flow(INT_INPUT)));
    }

    @Says(under = "Terms",
        words = "The byte is that of an expression of a clock other than is wanted. "
            + "(From the whole equation inwards: what is wanted is always known.)")
    static void theByteIsThatOfTheOutermostExpressionOffItsClock() {
        // The WHEN is off the clock of the flow, and its part off that of the WHEN: the WHEN is told.
        fails(3, INT, 0, when(BOOL_INPUT, flow(WHERE_TRUE)));
        fails(3, INT, 1, minus(unless(BOOL_INPUT, minus(flow(WHERE_TRUE)))));
        fails(3, INT, 5, add(flow(INT_INPUT), merge(BOOL_INPUT, flow(INT_INPUT), flow(INT_INPUT))));
        fails(3, INT, 4, add(minus(flow(INT_INPUT)), when(BOOL_INPUT, flow(INT_INPUT))));
        fails(3, INT, 3, merge(BOOL_INPUT, minus(flow(WHERE_FALSE)), flow(WHERE_TRUE)));
    }

    // Rule 4.

    @Says(under = "Terms", words = "4 BEGINNINGS: BEFORE e may be nothing at the first instant;")
    static void beforeMayBeNothingWhateverItsPart() {
        fails(4, INT, 0, before(flow(INT_INPUT)));
        fails(4, INT, 0, before(number(1)));
        fails(4, BOOL, 0, before(yes()));
        fails(4, INT, 0, before(first(number(1), number(2))));
        fails(4, WHERE_TRUE, 0, before(flow(WHERE_TRUE)));
        passes(INT, first(number(1), before(flow(INT_INPUT))));
    }

    @Says(under = "Terms",
        words = "so may an expression that has such a one in it, but for FIRST e f when only f has it.")
    static void soMayEachExpressionWithOneInIt() {
        int[] gone = before(number(1));
        int[] goneBool = before(yes());
        int[][] ints = {
            minus(gone), add(gone, number(1)), add(number(1), gone), subtract(gone, number(1)), subtract(number(1), gone),
            multiply(gone, number(1)), multiply(number(1), gone), choose(goneBool, number(1), number(1)),
            choose(yes(), gone, number(1)), choose(yes(), number(1), gone), merge(BOOL_INPUT, gone, number(1)),
            merge(BOOL_INPUT, number(1), gone), first(gone, number(1)), first(gone, gone),
        };
        for (int[] bytes : ints) {
            fails(4, INT, 0, bytes);
        }
        int[][] bools = {
            not(goneBool), less(gone, number(1)), less(number(1), gone), equal(gone, number(1)), equal(number(1), gone),
            and(goneBool, yes()), and(yes(), goneBool), or(goneBool, yes()), or(yes(), goneBool), not(not(not(goneBool))),
        };
        for (int[] bytes : bools) {
            fails(4, BOOL, 0, bytes);
        }
        fails(4, WHERE_TRUE, 0, when(BOOL_INPUT, gone));
        fails(4, WHERE_FALSE, 0, unless(BOOL_INPUT, gone));
    }

    @Says(under = "Terms",
        words = "so may an expression that has such a one in it, but for FIRST e f when only f has it.")
    static void firstMayNotWhenOnlyItsSecondPartMay() {
        int[] gone = before(number(1));
        passes(INT, first(number(1), gone));
        passes(INT, first(number(1), add(gone, gone)));
        passes(INT, add(number(1), first(number(1), gone)));
        passes(INT, first(number(1), before(first(number(1), gone))));
        passes(INT, first(first(number(1), gone), gone));
        passes(WHERE_TRUE, when(BOOL_INPUT, first(number(1), gone)));
        fails(4, INT, 0, add(gone, first(number(1), gone)));
        fails(4, INT, 0, first(add(number(1), gone), number(1)));
    }

    @Says(under = "Terms",
        words = "The byte is that of a BEFORE whose e may be nothing, of a FIRST whose e may be, "
            + "or 0 when the whole equation may be.")
    static void theByteIsThatOfABeforeOrAFirstOr0() {
        int[] gone = before(number(1));
        fails(4, INT, 3, first(number(1), before(gone)));
        fails(4, INT, 4, first(number(1), minus(before(minus(gone)))));
        fails(4, INT, 3, first(number(1), first(gone, number(1))));
        fails(4, INT, 4, first(number(1), minus(first(add(number(1), gone), number(1)))));
        fails(4, INT, 4, first(number(1), minus(before(before(gone)))));
        fails(4, INT, 3, first(number(1), before(first(gone, gone))));
        fails(4, INT, 4, first(first(number(1), before(gone)), number(1)));
        // The whole may be nothing here, which is told at 0, in front of what is wrong further in.
        fails(4, INT, 0, minus(before(gone)));
        fails(4, INT, 0, add(first(gone, number(1)), number(1)));
        fails(4, INT, 0, add(number(1), before(gone)));
    }

    // Rule 5.

    @Says(under = "Terms",
        words = "5 WAITING: a flow waits for itself: a flow waits for those that its equation names "
            + "(as FLOW, WHEN, UNLESS or MERGE),")
    static void aFlowWaitsForThoseThatItsEquationNames() {
        fails(5, INT, 0, flow(INT));
        fails(5, INT, 0, add(number(1), minus(flow(INT))));
        fails(5, INT, 0, first(number(1), flow(INT)));
        fails(5, INT, 0, choose(no(), flow(INT), number(1)));
        fails(5, BOOL, 0, merge(BOOL, yes(), no()));
        passes(INT, merge(BOOL, number(1), number(1)));
        // Flow INT is sampled on BOOL, and BOOL made of INT again.
        Desk desk = variety();
        desk.define(BOOL, less(flow(INT), number(1)));
        desk.define(INT, merge(BOOL, when(BOOL, flow(INT_INPUT)), number(1)));
        desk.fails(5, INT, 0);
        desk.define(INT, flow(INT_INPUT));
        desk.passes();
    }

    @Says(under = "Terms",
        words = "5 WAITING: a flow waits for itself: a flow waits for those that its equation names "
            + "(as FLOW, WHEN, UNLESS or MERGE),")
    static void aNameInWhenOrUnlessCountsToo() {
        Desk desk = new Desk();
        int condition = desk.boolFlow(0);
        int whereTrue = desk.boolFlow(1);
        int whereFalse = desk.boolFlow(2);
        int both = desk.boolFlow(0);
        desk.define(whereTrue, when(condition, yes()));
        desk.define(whereFalse, unless(condition, yes()));
        desk.define(both, merge(condition, when(condition, yes()), unless(condition, no())));
        desk.define(condition, flow(both));
        desk.fails(5, condition, 0);
        desk.define(condition, first(yes(), before(flow(both))));
        desk.passes();
        for (int k = 0; k < 4; k++) {
            Due.is(k, desk.order(k));
        }
    }

    @Says(under = "Terms", words = "but for those named only within BEFORE,")
    static void aNameOnlyWithinBeforeIsNotWaitedFor() {
        passes(INT, first(number(1), before(flow(INT))));
        passes(INT, first(number(1), before(add(number(1), minus(flow(INT))))));
        passes(BOOL, first(yes(), before(merge(BOOL, yes(), no()))));
        passes(BOOL, first(yes(), before(merge(BOOL_INPUT, when(BOOL_INPUT, flow(BOOL)), no()))));
        fails(5, INT, 0, first(flow(INT), before(flow(INT))));
        fails(5, INT, 0, first(number(1), add(before(flow(INT)), flow(INT))));
        fails(5, INT, 0, first(number(1), add(flow(INT), before(flow(INT)))));
        Desk desk = variety();
        desk.define(INT, first(number(1), before(choose(flow(BOOL), number(1), number(2)))));
        desk.define(BOOL, less(flow(INT), number(1)));
        desk.passes();
        Due.is(INT, desk.order(2));
        Due.is(BOOL, desk.order(3));
        desk.define(INT, choose(flow(BOOL), number(1), number(2)));
        desk.fails(5, INT, 0);
        desk.define(BOOL, first(yes(), before(less(flow(INT), number(1)))));
        desk.passes();
        Due.is(BOOL, desk.order(2));
        Due.is(INT, desk.order(3));
    }

    @Says(under = "Terms", words = "and for those that these wait for,")
    static void waitingGoesOnThroughOthers() {
        Desk desk = new Desk();
        for (int number = 0; number < 12; number++) {
            desk.intFlow(0);
        }
        for (int number = 0; number < 12; number++) {
            desk.define(number, flow((number + 1) % 12));
        }
        desk.fails(5, 0, 0);
        desk.define(11, first(number(1), before(flow(0))));
        desk.passes();
        desk.define(11, flow(4));
        desk.fails(5, 4, 0);
        desk.define(11, flow(11));
        desk.fails(5, 11, 0);
    }

    @Says(under = "Terms", words = "and for its clock's flow k and those that this waits for.")
    static void aFlowWaitsForItsClocksFlow() {
        // The condition is made of what is on the condition's clock.
        Desk desk = new Desk();
        int condition = desk.boolFlow(0);
        int sampled = desk.boolFlow(1);
        int through = desk.boolFlow(0);
        desk.define(sampled, yes());
        desk.define(through, merge(condition, flow(sampled), no()));
        desk.define(condition, flow(through));
        desk.fails(5, condition, 0);
        desk.define(condition, yes());
        desk.passes();
        Due.is(condition, desk.order(0));
        Due.is(sampled, desk.order(1));
        Due.is(through, desk.order(2));
    }

    @Says(under = "Terms", words = "and for its clock's flow k and those that this waits for.")
    static void aFlowWaitsForWhatItsClocksFlowWaitsFor() {
        Desk desk = new Desk();
        int condition = desk.boolFlow(0);
        int sampled = desk.intFlow(1);
        int source = desk.boolFlow(0);
        desk.define(sampled, number(1));
        desk.define(condition, flow(source));
        desk.define(source, yes());
        desk.passes();
        Due.is(source, desk.order(0));
        Due.is(condition, desk.order(1));
        Due.is(sampled, desk.order(2));
    }
}
