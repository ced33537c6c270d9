import java.util.Arrays;
import java.util.function.LongSupplier;

/** Promises 1 to 4 and 14: a new object, flow, type, equation, flows. */
final class PromisesOfBuilding extends Notation {
    private static final String ANEW = "What was checked is to be checked again, and the instants begin anew.";
    private static final String NO_CLOCK =
        "IllegalArgumentException: clock is not 0, 1 + 2 k or 2 + 2 k for a flow k of bools;";
    private static final String NO_EQUATION =
        "IllegalArgumentException: there is no such flow, it is an input, or the draft is malformed.";
    private static final String EMPTIED = "and is empty afterwards, also when this throws.";

    private PromisesOfBuilding() {
    }

    /** A bool input 0, an int input 1 on its clock 1, and a counter 2; checked, and some instants on. */
    private static Desk running() {
        Desk desk = new Desk();
        desk.boolInput(0);
        desk.intInput(1);
        desk.define(desk.intFlow(0), counter(2));
        desk.passes();
        desk.go(3);
        return desk;
    }

    /** The like, with a check that failed at byte 3 of flow 2. */
    private static Desk failing() {
        Desk desk = new Desk();
        desk.boolInput(0);
        desk.intInput(1);
        desk.define(desk.intFlow(0), add(number(1), yes()));
        desk.fails(2, 2, 3);
        return desk;
    }

    // Promise 1.

    @Says(under = "Promise 1", words = "No flows,")
    static void aNewObjectHasNoFlows() {
        Desk desk = new Desk();
        Due.is(0, desk.flows());
        Due.is(ARGUMENT, desk.present(0));
        Due.is(ARGUMENT, desk.value(0));
        Due.is(ARGUMENT, desk.seen(0));
        Due.is(ARGUMENT, desk.set(0, 1));
        Due.is(ARGUMENT, desk.equation(0));
        desk.isAtTheBeginning();
        desk.isUnchecked();
        Due.is(0, desk.flow(false, 0, false));
    }

    @Says(under = "Promise 1", words = "No flows,")
    static void withoutFlowsItPassesAndGoesOn() {
        Desk desk = new Desk();
        desk.passes();
        Due.is(ELEMENT, desk.order(0));
        desk.go(50);
        Due.is(50, desk.time());
    }

    @Says(under = "Promise 1", words = "an empty draft.")
    static void aNewObjectHasAnEmptyDraft() {
        Desk desk = new Desk();
        int flow = desk.intFlow(0);
        Due.is(ARGUMENT, desk.equation(flow));
        desk.define(flow, number(1));
        Desk full = new Desk();
        for (int i = 0; i < 5; i++) {
            Due.is(DONE, full.type(0, 8));
        }
        Due.is(STATE, full.type(0, 1));
    }

    // Promise 2.

    @Says(under = "Promise 2", words = "One more flow: its number.")
    static void eachFlowIsTheNextNumber() {
        Desk desk = new Desk();
        for (int number = 0; number < 12; number++) {
            Due.is(number, desk.flow(true, number == 0 ? 0 : 2 * number, number % 2 == 0));
            Due.is(number + 1, desk.flows());
        }
    }

    @Says(under = "Promise 2", words = NO_CLOCK)
    static void aClockOfNoFlowIsRefused() {
        Desk desk = new Desk();
        for (int clock : new int[] {-1, -2, -3, 1, 2, 3, 24, 25, LOWEST, LOWEST + 1, HIGHEST, HIGHEST - 1}) {
            Due.is(ARGUMENT, desk.flow(true, clock, true));
        }
        Due.is(0, desk.flow(true, 0, true));
        for (int clock : new int[] {-1, -2, 3, 4, 5, 24, 25, 256, 257, LOWEST, LOWEST + 1, HIGHEST, HIGHEST - 1}) {
            Due.is(ARGUMENT, desk.flow(true, clock, true));
        }
        Due.is(1, desk.flow(true, 1, true));
        Due.is(2, desk.flow(true, 2, true));
        Due.is(3, desk.flow(true, 5, true));
        Due.is(4, desk.flow(true, 6, true));
        Due.is(5, desk.flows());
    }

    @Says(under = "Promise 2", words = NO_CLOCK)
    static void aClockOfAFlowOfIntsIsRefused() {
        Desk desk = new Desk();
        desk.intInput(0);
        desk.boolFlow(0);
        desk.intFlow(3);
        for (int clock : new int[] {1, 2, 5, 6}) {
            Due.is(ARGUMENT, desk.flow(true, clock, true));
        }
        Due.is(3, desk.flow(false, 4, false));
    }

    @Says(under = "Promise 2", words = NO_CLOCK)
    static void aFlowWithAWrongClockChangesNothing() {
        for (Desk desk : new Desk[] {running(), failing()}) {
            desk.refuses(ARGUMENT,
                () -> desk.flow(true, -1, true), () -> desk.flow(false, 3, false), () -> desk.flow(true, 7, true));
        }
        Desk desk = running();
        Due.is(ARGUMENT, desk.flow(true, 7, true));
        desk.go(1);
        Due.is(4, desk.value(2));
    }

    /** Twelve flows, of which 11 is a counter, checked and some instants on. */
    private static Desk full() {
        Desk desk = new Desk();
        for (int number = 0; number < 11; number++) {
            desk.boolInput(0);
        }
        desk.define(desk.intFlow(0), counter(11));
        desk.passes();
        desk.go(3);
        return desk;
    }

    @Says(under = "Promise 2", words = "IllegalStateException: there are 12.")
    static void a13thFlowIsRefusedAndChangesNothing() {
        Desk desk = full();
        desk.refuses(STATE, () -> desk.flow(true, 0, true), () -> desk.flow(false, 1, false), () -> desk.flow(false, 22, true));
        Due.is(12, desk.flows());
        desk.go(1);
        Due.is(4, desk.value(11));
    }

    @Says(under = "Promise 2",
        words = "IllegalArgumentException: clock is not 0, 1 + 2 k or 2 + 2 k for a flow k of bools; "
            + "IllegalStateException: there are 12.")
    static void ofTwoReasonsTheClockIsToldBeforeTheNumberOfFlows() {
        Desk desk = full();
        desk.refuses(ARGUMENT, () -> desk.flow(true, -1, true), () -> desk.flow(true, 23, true), () -> desk.flow(true, 25, true));
    }

    @Says(under = "Promise 2", words = ANEW)
    static void aFlowMakesTheInstantsBeginAnew() {
        Desk desk = running();
        desk.host(0, 1);
        desk.go(2);
        desk.boolInput(0);
        desk.isUnchecked();
        desk.isAtTheBeginning();
        desk.passes();
        desk.values(2, 1, 2);
        Desk wrong = failing();
        wrong.boolInput(0);
        wrong.isUnchecked();
        wrong.fails(2, 2, 3);
    }

    // Promise 3.

    /** What a flow of ints is with the draft as its equation. */
    private static void draftIs(int due, Desk desk) {
        Due.is(DONE, desk.equation(0));
        desk.passes();
        desk.values(0, due);
    }

    private static Desk writer() {
        Desk desk = new Desk();
        desk.intFlow(0);
        return desk;
    }

    @Says(under = "Promise 3", words = "Appends n bytes to the draft:")
    static void eachCallAppendsToTheDraft() {
        Desk desk = writer();
        for (int b : subtract(number(100), number(30))) {
            Due.is(DONE, desk.type(b, 1));
        }
        draftIs(70, desk);
        Due.is(DONE, desk.type(0x07_00L, 2));
        Due.is(DONE, desk.type(0xe4L, 1));
        Due.is(DONE, desk.type(0x00_9eL, 2));
        draftIs(70, desk);
    }

    @Says(under = "Promise 3", words = "the lowest n bytes of bytes, the highest first.")
    static void theLowestBytesAreTakenTheHighestFirst() {
        Desk desk = writer();
        Due.is(DONE, desk.type(0x7777_7777_7777_00ffL, 2));
        draftIs(127, desk);
        Due.is(DONE, desk.type(0xffff_ffff_ffff_0000L, 2));
        draftIs(-128, desk);
        // Each n from 1 to 8, by sums that are as long; before them stand bytes that are not taken.
        Due.is(DONE, desk.type(0x1312_1106_0081_0082L, 5));
        draftIs(3, desk);
        Due.is(DONE, desk.type(0x1312_0506_0081_0082L, 6));
        draftIs(-3, desk);
        Due.is(DONE, desk.type(0x1305_0506_0081_0082L, 7));
        draftIs(3, desk);
        Due.is(DONE, desk.type(0x0505_0506_0081_0082L, 8));
        draftIs(-3, desk);
        Due.is(DONE, desk.type(0x0605_0085L, 4));
        Due.is(DONE, desk.type(0x13_05_00_fdL, 3));
        draftIs(-130, desk);
        Due.is(DONE, desk.type(0x1300L, 1));
        Due.is(DONE, desk.type(-1L, 1));
        draftIs(127, desk);
    }

    @Says(under = "Promise 3", words = "IllegalArgumentException: n is not 1 .. 8;")
    static void fewerThan1OrMoreThan8BytesAreRefused() {
        Desk desk = writer();
        Due.is(DONE, desk.type(0, 1));
        for (int n : new int[] {0, 9, -1, 10, 16, 40, 41, LOWEST, HIGHEST, HIGHEST - 1}) {
            Due.is(ARGUMENT, desk.type(0x1313, n));
        }
        Due.is(DONE, desk.type(133, 1));
        draftIs(5, desk);
        Desk running = running();
        running.refuses(ARGUMENT, () -> running.type(0, 0), () -> running.type(0, 9));
    }

    @Says(under = "Promise 3", words = "IllegalStateException: there would be more than 40.")
    static void moreThan40BytesAreRefused() {
        for (int n = 1; n <= 8; n++) {
            Desk desk = writer();
            desk.write(new int[41 - n]);
            Due.is(STATE, desk.type(0, n));
            if (n > 1) {
                Due.is(DONE, desk.type(0, n - 1));
                Due.is(STATE, desk.type(0, 1));
            }
            Due.is(STATE, desk.type(0, 8));
            Desk fitting = writer();
            fitting.write(new int[40 - n]);
            Due.is(DONE, fitting.type(0, n));
        }
        Desk running = running();
        running.write(new int[40]);
        running.refuses(STATE, () -> running.type(0, 1), () -> running.type(0, 8));
    }

    @Says(under = "Promise 3", words = "IllegalStateException: there would be more than 40.")
    static void aRefusedCallAppendsNone() {
        Desk desk = writer();
        desk.write(Arrays.copyOf(fortyBytes(number(1)), 38));
        Due.is(STATE, desk.type(0x00_81_05, 3));
        Due.is(STATE, desk.type(0x05, 8));
        Due.is(DONE, desk.type(0x00_81, 2));
        Due.is(STATE, desk.type(0, 1));
        draftIs(-11, desk);
    }

    @Says(under = "Promise 3",
        words = "IllegalArgumentException: n is not 1 .. 8; IllegalStateException: there would be more than 40.")
    static void ofTwoReasonsNIsToldBeforeTheFullDraft() {
        Desk desk = writer();
        desk.write(new int[40]);
        for (int n : new int[] {0, 9, -1, LOWEST, HIGHEST}) {
            Due.is(ARGUMENT, desk.type(0, n));
        }
    }

    // Promise 4.

    @Says(under = "Promise 4", words = "The draft becomes the equation of a flow (in place of one it had),")
    static void theDraftBecomesTheEquationInPlaceOfAnother() {
        Desk desk = writer();
        desk.define(0, number(1));
        desk.passes();
        desk.values(0, 1);
        desk.define(0, add(number(1), number(1)));
        desk.passes();
        desk.values(0, 2);
        desk.define(0, number(3));
        desk.passes();
        desk.values(0, 3);
    }

    @Says(under = "Promise 4", words = "The draft becomes the equation of a flow (in place of one it had),")
    static void flowsKeepEquationsOfTheirOwn() {
        Desk desk = new Desk();
        for (int number = 0; number < 12; number++) {
            desk.intFlow(0);
        }
        for (int number = 11; number >= 0; number--) {
            desk.define(number, number(10 * number));
        }
        desk.define(5, minus(number(1)));
        desk.passes();
        desk.go(1);
        for (int number = 0; number < 12; number++) {
            Due.is(number == 5 ? -1 : 10 * number, desk.value(number));
        }
    }

    @Says(under = "Promise 4", words = EMPTIED)
    static void theDraftIsEmptyAfterwards() {
        Desk desk = writer();
        desk.define(0, number(1));
        Due.is(ARGUMENT, desk.equation(0));
        desk.define(0, number(2));
        desk.passes();
        desk.values(0, 2);
        desk.write(new int[40]);
    }

    @Says(under = "Promise 4", words = EMPTIED)
    static void theDraftIsEmptyAlsoAfterEachThrow() {
        Desk desk = writer();
        int input = desk.intInput(0);
        for (int flow : new int[] {-1, 2, LOWEST, HIGHEST, input}) {
            desk.write(number(1));
            Due.is(ARGUMENT, desk.equation(flow));
            Due.is(ARGUMENT, desk.equation(0));
            desk.write(0);
            Due.is(ARGUMENT, desk.equation(flow));
            desk.define(0, number(2));
        }
        desk.write(new int[40]);
        Due.is(ARGUMENT, desk.equation(0));
        desk.write(new int[40]);
        Due.is(ARGUMENT, desk.equation(12));
        desk.define(0, number(3));
        desk.passes();
        desk.values(0, 3);
    }

    @Says(under = "Promise 4", words = NO_EQUATION)
    static void noSuchFlowIsRefused() {
        Desk desk = writer();
        desk.intFlow(0);
        for (int flow : new int[] {-1, 2, 3, 11, 12, 13, 255, 256, LOWEST, HIGHEST}) {
            desk.write(number(1));
            Due.is(ARGUMENT, desk.equation(flow));
        }
        desk.define(1, number(1));
        desk.define(0, number(1));
    }

    @Says(under = "Promise 4", words = NO_EQUATION)
    static void anInputIsRefused() {
        Desk desk = new Desk();
        desk.intInput(0);
        desk.boolInput(0);
        desk.define(desk.intFlow(0), number(1));
        desk.write(number(1));
        Due.is(ARGUMENT, desk.equation(0));
        desk.write(yes());
        Due.is(ARGUMENT, desk.equation(1));
        desk.passes();
        desk.values(0, 0);
        Due.is(2, desk.order(0));
        Due.is(ELEMENT, desk.order(1));
    }

    @Says(under = "Promise 4", words = NO_EQUATION)
    static void aMalformedDraftIsRefusedAndTheOldEquationStays() {
        Desk desk = writer();
        Due.is(ARGUMENT, desk.equation(0));
        desk.define(0, counter(0));
        desk.passes();
        desk.values(0, 1, 2);
        for (int[] bytes : new int[][] {{}, {19}, {0}, {1, 1}, {3, 1}}) {
            desk.write(bytes);
            Due.is(ARGUMENT, desk.equation(0));
        }
        desk.values(0, 3, 4);
    }

    @Says(under = "Promise 4", words = NO_EQUATION)
    static void aRefusedEquationChangesNothingButTheDraft() {
        for (Desk desk : new Desk[] {running(), failing()}) {
            LongSupplier noFlow = () -> afterWriting(desk, 3, number(1));
            LongSupplier input = () -> afterWriting(desk, 0, yes());
            LongSupplier malformed = () -> afterWriting(desk, 2, row(19));
            desk.refuses(ARGUMENT, noFlow, input, malformed, () -> desk.equation(2));
        }
        Desk desk = running();
        Due.is(ARGUMENT, desk.equation(2));
        desk.values(2, 4, 5);
    }

    private static long afterWriting(Desk desk, int flow, int[] bytes) {
        desk.write(bytes);
        return desk.equation(flow);
    }

    @Says(under = "Promise 4", words = ANEW)
    static void anEquationMakesTheInstantsBeginAnew() {
        Desk desk = running();
        desk.host(0, 1);
        desk.go(2);
        desk.define(2, counter(2));
        desk.isUnchecked();
        desk.isAtTheBeginning();
        desk.passes();
        desk.values(2, 1, 2);
        Desk wrong = failing();
        wrong.define(2, add(number(1), yes()));
        wrong.isUnchecked();
        wrong.fails(2, 2, 3);
    }

    // Promise 14.

    @Says(under = "Promise 14", words = "How many flows there are.")
    static void flowsTellsFrom0To12() {
        Desk desk = new Desk();
        for (int many = 0; many < 12; many++) {
            Due.is(many, desk.flows());
            Due.is(ARGUMENT, desk.flow(true, 23, true));
            Due.is(many, desk.flows());
            desk.boolFlow(0);
        }
        Due.is(12, desk.flows());
        Due.is(STATE, desk.flow(true, 0, true));
        Due.is(12, desk.flows());
        desk.check();
        Due.is(12, desk.flows());
    }
}
