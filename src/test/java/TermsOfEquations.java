import java.util.Arrays;

/** The terms: how an equation is read, what each kind of expression is, and which rows are malformed. */
final class TermsOfEquations extends Notation {
    private static final int A = 0;
    private static final int B = 1;
    private static final int P = 2;
    private static final int Q = 3;
    private static final int RESULT = 4;
    private static final int[] EDGES = {0, 1, -1, 2, 7, -12, 65536, HIGHEST, HIGHEST - 1, LOWEST, LOWEST + 1};

    private TermsOfEquations() {
    }

    /** Int inputs A and B, bool inputs P and Q, and the RESULT of an equation, all on the basic clock. */
    private static Desk deskFor(boolean bool, int... bytes) {
        Desk desk = new Desk();
        desk.intInput(0);
        desk.intInput(0);
        desk.boolInput(0);
        desk.boolInput(0);
        Due.is(RESULT, desk.flow(bool, 0, false));
        desk.define(RESULT, bytes);
        return desk;
    }

    private static void goes(Desk desk, long due, int a, int b) {
        desk.host(A, a);
        desk.host(B, b);
        desk.host(P, a);
        desk.host(Q, b);
        desk.go(1);
        Due.is(due, desk.value(RESULT));
    }

    private static void isOnce(long due, boolean bool, int a, int b, int... bytes) {
        Desk desk = deskFor(bool, bytes);
        desk.passes();
        goes(desk, due, a, b);
    }

    private static void isInt(long due, int a, int b, int... bytes) {
        isOnce(due, false, a, b, bytes);
    }

    private static void isBool(boolean due, int a, int b, int... bytes) {
        isOnce(due ? 1 : 0, true, a, b, bytes);
    }

    private static void wrongType(boolean bool, int at, int... bytes) {
        deskFor(bool, bytes).fails(2, RESULT, at);
    }

    // Reading.

    @Says(under = "Terms", words = "AN EQUATION is an EXPRESSION, a row of at most 40 bytes")
    static void fortyBytesAreAnEquationAnd41AreNot() {
        int[] bytes = fortyBytes(flow(B));
        Due.same("the bytes of the row", 40, bytes.length);
        isInt(-10, 0, 2, bytes);
        isInt(-11, 0, 0, fortyBytes(number(1)));
        Desk desk = new Desk();
        desk.intFlow(0);
        desk.write(bytes.clone());
        Due.is(STATE, desk.type(5, 1));
    }

    @Says(under = "Terms", words = "(0 .. 255)")
    static void bytesAreNotSigned() {
        isInt(-128, 0, 0, 0, 0);
        isInt(-1, 0, 0, 0, 127);
        isInt(0, 0, 0, 0, 128);
        isInt(127, 0, 0, 0, 255);
    }

    @Says(under = "Terms",
        words = "read from the beginning, each part from where the one before ends (e, f, g expressions, k a byte for a flow)")
    static void eachPartIsReadFromWhereTheOneBeforeEnds() {
        isInt(1, 0, 0, subtract(subtract(number(5), number(3)), number(1)));
        isInt(3, 0, 0, subtract(number(5), subtract(number(3), number(1))));
        isInt(-7, 0, 0, choose(not(no()), minus(add(number(3), number(4))), number(9)));
        isInt(9, 0, 0, choose(and(yes(), no()), minus(add(number(3), number(4))), number(9)));
        isInt(4, 0, 0, first(choose(yes(), number(4), number(5)), number(6)));
        isInt(18, 3, 0, multiply(add(flow(A), flow(A)), flow(A)));
    }

    // The kinds.

    @Says(under = "Terms", words = "0 NUMBER and a byte b, the int b - 128.")
    static void numberIsItsByteLess128() {
        for (int b = 0; b < 256; b++) {
            isInt(b - 128, 0, 0, 0, b);
        }
        wrongType(true, 0, number(1));
    }

    @Says(under = "Terms", words = "1 TRUE. 2 FALSE.")
    static void trueAndFalse() {
        isBool(true, 0, 0, 1);
        isBool(false, 0, 0, 2);
        wrongType(false, 0, yes());
        wrongType(false, 0, no());
    }

    @Says(under = "Terms", words = "3 FLOW k.")
    static void flowIsTheValueOfAFlowTheFirstAndTheLastToo() {
        isInt(LOWEST, LOWEST, 3, 3, A);
        isInt(3, LOWEST, 3, 3, B);
        Desk desk = new Desk();
        desk.intFlow(0);
        for (int number = 1; number < 12; number++) {
            desk.intInput(0);
            desk.host(number, 100 + number);
        }
        desk.define(0, flow(11));
        desk.passes();
        desk.values(0, 111);
    }

    @Says(under = "Terms", words = "4 NOT e (bool).")
    static void notTurnsABoolRound() {
        isBool(true, 0, 0, not(flow(P)));
        isBool(false, 1, 0, not(flow(P)));
        isBool(true, 1, 0, not(not(flow(P))));
        wrongType(false, 0, not(yes()));
        wrongType(true, 1, not(number(1)));
    }

    @Says(under = "Terms", words = "5 MINUS e (int).")
    static void minusOfEachEdge() {
        for (int a : EDGES) {
            isInt(-a, a, 0, minus(flow(A)));
        }
        isInt(LOWEST, LOWEST, 0, minus(flow(A)));
        wrongType(true, 0, minus(number(1)));
        wrongType(false, 1, minus(yes()));
    }

    @Says(under = "Terms", words = "6 ADD, 7 SUBTRACT, 8 MULTIPLY e f (ints; an int, wrapping round).")
    static void addWrapsRound() {
        isInt(LOWEST, HIGHEST, 1, add(flow(A), flow(B)));
        isInt(HIGHEST, LOWEST, -1, add(flow(A), flow(B)));
        isInt(-2, HIGHEST, HIGHEST, add(flow(A), flow(B)));
        isInt(0, LOWEST, LOWEST, add(flow(A), flow(B)));
        for (int a : EDGES) {
            isInt(a + 5, a, 5, add(flow(A), flow(B)));
        }
        wrongType(true, 0, add(number(1), number(1)));
        wrongType(false, 1, add(yes(), number(1)));
        wrongType(false, 3, add(number(1), yes()));
    }

    @Says(under = "Terms", words = "6 ADD, 7 SUBTRACT, 8 MULTIPLY e f (ints; an int, wrapping round).")
    static void subtractWrapsRound() {
        isInt(HIGHEST, LOWEST, 1, subtract(flow(A), flow(B)));
        isInt(LOWEST, HIGHEST, -1, subtract(flow(A), flow(B)));
        isInt(LOWEST, 0, LOWEST, subtract(flow(A), flow(B)));
        isInt(-1, HIGHEST, LOWEST, subtract(flow(A), flow(B)));
        for (int a : EDGES) {
            isInt(a - 5, a, 5, subtract(flow(A), flow(B)));
            isInt(5 - a, 5, a, subtract(flow(A), flow(B)));
        }
        wrongType(true, 0, subtract(number(1), number(1)));
        wrongType(false, 1, subtract(yes(), number(1)));
        wrongType(false, 3, subtract(number(1), yes()));
    }

    @Says(under = "Terms", words = "6 ADD, 7 SUBTRACT, 8 MULTIPLY e f (ints; an int, wrapping round).")
    static void multiplyWrapsRound() {
        isInt(0, 65536, 65536, multiply(flow(A), flow(B)));
        isInt(-2, HIGHEST, 2, multiply(flow(A), flow(B)));
        isInt(LOWEST, LOWEST, -1, multiply(flow(A), flow(B)));
        isInt(1, HIGHEST, HIGHEST, multiply(flow(A), flow(B)));
        for (int a : EDGES) {
            isInt(a * -3, a, -3, multiply(flow(A), flow(B)));
        }
        wrongType(true, 0, multiply(number(1), number(1)));
        wrongType(false, 1, multiply(yes(), number(1)));
        wrongType(false, 3, multiply(number(1), yes()));
    }

    @Says(under = "Terms", words = "9 LESS, 10 EQUAL e f (ints; a bool).")
    static void lessOfEachPairOfEdges() {
        for (int a : EDGES) {
            for (int b : EDGES) {
                isBool(a < b, a, b, less(flow(A), flow(B)));
            }
        }
        wrongType(false, 0, less(number(1), number(1)));
    }

    @Says(under = "Terms", words = "9 LESS, 10 EQUAL e f (ints; a bool).")
    static void equalOfEachPairOfEdges() {
        for (int a : EDGES) {
            for (int b : EDGES) {
                isBool(a == b, a, b, equal(flow(A), flow(B)));
            }
        }
        wrongType(false, 0, equal(number(1), number(1)));
    }

    @Says(under = "Terms", words = "11 AND, 12 OR e f (bools).")
    static void andOrOfAllBools() {
        for (int p = 0; p < 2; p++) {
            for (int q = 0; q < 2; q++) {
                isBool(p == 1 && q == 1, p, q, and(flow(P), flow(Q)));
                isBool(p == 1 || q == 1, p, q, or(flow(P), flow(Q)));
            }
        }
        wrongType(false, 0, and(yes(), no()));
        wrongType(true, 1, and(number(1), no()));
        wrongType(true, 2, and(yes(), number(1)));
        wrongType(false, 0, or(yes(), no()));
        wrongType(true, 1, or(number(1), no()));
        wrongType(true, 2, or(yes(), number(1)));
    }

    @Says(under = "Terms", words = "13 IF e f g (a bool and two of one type): f when e is true, otherwise g.")
    static void ifTakesOneOfTwo() {
        isInt(10, 1, 0, choose(flow(P), number(10), number(20)));
        isInt(20, 0, 0, choose(flow(P), number(10), number(20)));
        isBool(true, 1, 0, choose(flow(P), yes(), no()));
        isBool(false, 0, 0, choose(flow(P), yes(), no()));
        wrongType(false, 1, choose(number(1), number(10), number(20)));
        wrongType(false, 2, choose(yes(), yes(), number(20)));
        wrongType(false, 4, choose(yes(), number(10), yes()));
    }

    @Says(under = "Terms", words = "14 BEFORE e: what e was at the instant before of its clock")
    static void beforeIsWhatItWasAtTheInstantBefore() {
        Desk desk = deskFor(false, first(number(-1), before(add(flow(A), flow(B)))));
        desk.passes();
        goes(desk, -1, 5, 100);
        goes(desk, 105, 6, 200);
        goes(desk, 206, 7, 300);
        goes(desk, 307, 7, 300);
        goes(desk, 307, LOWEST, 0);
        goes(desk, LOWEST, 0, 0);
    }

    @Says(under = "Terms", words = "14 BEFORE e: what e was at the instant before of its clock")
    static void beforeWithinBeforeIsTwoInstantsBack() {
        Desk desk = deskFor(false, first(number(-1), before(first(number(-2), before(flow(A))))));
        desk.passes();
        int[] due = {-1, -2, 3, 6, 9, 12};
        for (int i = 0; i < due.length; i++) {
            goes(desk, due[i], 3 * (i + 1), 0);
        }
    }

    @Says(under = "Terms", words = "14 BEFORE e: what e was at the instant before of its clock")
    static void beforeGoesOnInAPartThatIsNotChosen() {
        Desk desk = deskFor(false, choose(flow(P), first(number(-1), before(flow(B))), number(0)));
        desk.passes();
        goes(desk, 0, 0, 5);
        goes(desk, 0, 0, 6);
        goes(desk, 6, 1, 7);
        goes(desk, 7, 1, 8);
    }

    @Says(under = "Terms",
        words = "(at the first one it is NOTHING; where that comes up all the same, it is 0 or false).")
    static void nothingIs0OrFalseWhereItComesUp() {
        // FIRST counts the basic clock, but a BEFORE in MERGE one of P's: that may be at its first instant later.
        Desk ints = deskFor(false, first(number(-1), merge(P, before(number(10)), before(number(20)))));
        ints.passes();
        goes(ints, -1, 1, 0);
        goes(ints, 0, 0, 0);
        goes(ints, 10, 1, 0);
        goes(ints, 20, 0, 0);
        ints.passes();
        goes(ints, -1, 0, 0);
        goes(ints, 0, 1, 0);
        goes(ints, 20, 0, 0);
        Desk bools = deskFor(true, first(yes(), merge(P, before(yes()), before(yes()))));
        bools.passes();
        goes(bools, 1, 1, 0);
        goes(bools, 0, 0, 0);
        goes(bools, 1, 1, 0);
        goes(bools, 1, 0, 0);
    }

    @Says(under = "Terms", words = "15 FIRST e f (of one type): e at the first instant of its clock, f at all others.")
    static void firstIsEAtTheFirstInstantAndFAtAllOthers() {
        Desk desk = deskFor(false, first(flow(A), flow(B)));
        desk.passes();
        goes(desk, 5, 5, 100);
        goes(desk, 101, 6, 101);
        goes(desk, 102, 7, 102);
        desk.go(50);
        goes(desk, 103, 8, 103);
        desk.passes();
        goes(desk, 9, 9, 104);
        goes(desk, 105, 9, 105);
        isBool(true, 0, 0, first(yes(), no()));
        wrongType(false, 1, first(yes(), number(1)));
        wrongType(false, 3, first(number(1), yes()));
    }

    /** Bool input 0, int input 1, and an int flow 2 with an equation on a clock of flow 0. */
    private static Desk sampled(int clock, int... bytes) {
        Desk desk = new Desk();
        desk.boolInput(0);
        desk.intInput(0);
        desk.intFlow(clock);
        desk.define(2, bytes);
        return desk;
    }

    private static void step(Desk desk, int bool, int value, int there, long due) {
        desk.host(0, bool);
        desk.host(1, value);
        desk.go(1);
        Due.is(there, desk.present(2));
        Due.is(due, desk.value(2));
    }

    @Says(under = "Terms",
        words = "16 WHEN k e, 17 UNLESS k e (k a flow of bools): e at the instants at which k is true, false.")
    static void whenIsThereWhereKIsTrue() {
        Desk desk = sampled(1, when(0, flow(1)));
        desk.passes();
        step(desk, 0, 10, 0, ELEMENT);
        step(desk, 1, 11, 1, 11);
        step(desk, 0, 12, 0, 11);
        step(desk, 1, 13, 1, 13);
        sampled(1, when(1, flow(1))).fails(2, 2, 0);
    }

    @Says(under = "Terms",
        words = "16 WHEN k e, 17 UNLESS k e (k a flow of bools): e at the instants at which k is true, false.")
    static void unlessIsThereWhereKIsFalse() {
        Desk desk = sampled(2, unless(0, flow(1)));
        desk.passes();
        step(desk, 1, 10, 0, ELEMENT);
        step(desk, 0, 11, 1, 11);
        step(desk, 1, 12, 0, 11);
        step(desk, 0, 13, 1, 13);
        sampled(2, unless(1, flow(1))).fails(2, 2, 0);
    }

    @Says(under = "Terms", words = "18 MERGE k e f (of one type): e where k is true, f where k is false.")
    static void mergeIsEWhereKIsTrueAndFWhereItIsFalse() {
        Desk desk = sampled(0, merge(0, when(0, flow(1)), unless(0, minus(flow(1)))));
        desk.passes();
        step(desk, 1, 10, 1, 10);
        step(desk, 0, 11, 1, -11);
        step(desk, 0, 12, 1, -12);
        step(desk, 1, 13, 1, 13);
        sampled(0, merge(0, yes(), number(1))).fails(2, 2, 2);
        sampled(0, merge(0, number(1), yes())).fails(2, 2, 4);
    }

    // Malformed rows.

    /** Two flows: 0 of ints without an equation, 1 a bool input. */
    private static Desk reader() {
        Desk desk = new Desk();
        desk.intFlow(0);
        desk.boolInput(0);
        return desk;
    }

    private static void isMalformed(Desk desk, int... bytes) {
        desk.write(bytes);
        Due.is(ARGUMENT, desk.equation(0));
    }

    /** Well-formed rows, at least one of each kind. */
    private static int[][] oneOfEachKind() {
        return new int[][] {
            number(-128), number(127), yes(), no(), flow(0), flow(1), not(yes()), minus(number(1)), add(number(1), flow(1)),
            subtract(number(1), number(2)), multiply(flow(0), flow(0)), less(number(1), flow(0)), equal(flow(0), number(1)),
            and(yes(), no()), or(no(), flow(1)), choose(flow(1), number(1), number(2)), before(flow(0)),
            first(number(1), flow(0)), when(1, flow(0)), unless(1, number(1)), merge(1, number(1), flow(0)),
        };
    }

    @Says(under = "Terms", words = "It is MALFORMED when it is not just one expression")
    static void justOneExpressionIsWellFormed() {
        Desk desk = reader();
        for (int[] bytes : oneOfEachKind()) {
            desk.define(0, bytes);
        }
        Due.is(ARGUMENT, desk.equation(0));
        for (int[] bytes : oneOfEachKind()) {
            isMalformed(desk, join(bytes, yes()));
        }
    }

    @Says(under = "Terms", words = "(another byte,")
    static void eachByteFrom19IsAnother() {
        Desk desk = reader();
        for (int other = 19; other < 256; other++) {
            isMalformed(desk, other);
        }
        Desk inParts = reader();
        for (int other : new int[] {19, 20, 32, 127, 128, 146, 255}) {
            isMalformed(inParts, not(row(other)));
            isMalformed(inParts, add(row(other), number(1)));
            isMalformed(inParts, add(number(1), row(other)));
            isMalformed(inParts, choose(yes(), no(), row(other)));
            isMalformed(inParts, other, 1);
            isMalformed(inParts, merge(1, yes(), row(other)));
        }
    }

    @Says(under = "Terms", words = "bytes missing")
    static void eachRowThatStopsShortIsMalformed() {
        for (int[] bytes : oneOfEachKind()) {
            Desk desk = reader();
            for (int length = 0; length < bytes.length; length++) {
                isMalformed(desk, Arrays.copyOf(bytes, length));
            }
        }
        Desk full = reader();
        int[] bytes = fortyBytes(number(1));
        for (int length = 30; length < 40; length++) {
            isMalformed(full, Arrays.copyOf(bytes, length));
        }
        // Forty bytes, and the next one that is wanted would be the 41st.
        for (int[] end : new int[][] {{5, 5}, {5, 0}, {5, 3}, {5, 16}, {5, 18}, {6, 1}, {13, 1}, {16, 1}}) {
            isMalformed(full, fortyBytes(end));
        }
        // What an earlier draft had left behind its end is none of this one's bytes.
        full.define(0, bytes);
        isMalformed(full, Arrays.copyOf(bytes, 39));
    }

    @Says(under = "Terms", words = "or left over,")
    static void eachRowThatGoesOnIsMalformed() {
        for (int[] bytes : oneOfEachKind()) {
            Desk desk = reader();
            isMalformed(desk, join(bytes, row(0)));
            isMalformed(desk, join(bytes, yes()));
            isMalformed(desk, join(bytes, row(255)));
            isMalformed(desk, join(bytes, number(1)));
            isMalformed(desk, join(bytes, bytes));
        }
    }

    @Says(under = "Terms", words = "k no flow),")
    static void aByteForAFlowIsBelowTheirNumber() {
        Desk desk = reader();
        for (int k : new int[] {2, 3, 11, 12, 127, 128, 255}) {
            isMalformed(desk, flow(k));
            isMalformed(desk, when(k, yes()));
            isMalformed(desk, unless(k, yes()));
            isMalformed(desk, merge(k, yes(), no()));
            isMalformed(desk, add(number(1), flow(k)));
        }
        desk.define(0, flow(1));
        desk.define(0, when(1, yes()));
        desk.define(0, unless(1, yes()));
        desk.define(0, merge(1, yes(), no()));
        desk.boolInput(0);
        desk.define(0, flow(2));
        isMalformed(desk, flow(3));
    }

    /** An expression that stands in some others of one kind, each time as the last part. */
    private static int[] within(int many, int[] headAndOtherParts) {
        int[] bytes = yes();
        for (int i = 0; i < many; i++) {
            bytes = join(headAndOtherParts, bytes);
        }
        return bytes;
    }

    @Says(under = "Terms", words = "or an expression stands in more than 10 others.")
    static void anExpressionStandsIn10OthersAtMost() {
        int[][] heads = {
            {4}, {5}, {6, 1}, {7, 1}, {8, 1}, {9, 1}, {10, 1}, {11, 1}, {12, 1}, {13, 1, 1}, {14}, {15, 1}, {16, 1}, {17, 1},
            {18, 1, 1},
        };
        for (int[] head : heads) {
            Desk desk = reader();
            desk.define(0, within(9, head));
            desk.define(0, within(10, head));
            isMalformed(desk, within(11, head));
        }
        Desk desk = reader();
        isMalformed(desk, within(39, row(4)));
        isMalformed(desk, add(within(11, row(4)), yes()));
        isMalformed(desk, choose(yes(), within(10, row(4)), yes()));
        desk.define(0, choose(yes(), within(9, row(4)), within(9, row(4))));
        desk.define(0, add(within(9, row(5)), within(9, row(5))));
    }

    @Says(under = "Terms", words = "or an expression stands in more than 10 others.")
    static void anExpressionIn10OthersIsWorkedOut() {
        int[] ten = number(1);
        for (int i = 0; i < 10; i++) {
            ten = add(number(1), ten);
        }
        isInt(11, 0, 0, ten);
        int[] chosen = flow(P);
        for (int i = 0; i < 10; i++) {
            chosen = choose(yes(), chosen, no());
        }
        isBool(true, 1, 0, chosen);
        isBool(false, 0, 0, chosen);
        int[] turned = number(7);
        for (int i = 0; i < 10; i++) {
            turned = minus(turned);
        }
        isInt(7, 0, 0, turned);
    }

    // Clocks within expressions.

    @Says(under = "Terms", words = "(FIRST and BEFORE count the instants of the clock on which they are")
    static void firstAndBeforeCountTheInstantsOfTheirClock() {
        Desk desk = sampled(1, first(number(-1), before(when(0, flow(1)))));
        desk.passes();
        step(desk, 0, 10, 0, ELEMENT);
        step(desk, 1, 11, 1, -1);
        step(desk, 0, 12, 0, -1);
        step(desk, 0, 13, 0, -1);
        step(desk, 1, 14, 1, 11);
        step(desk, 1, 15, 1, 14);
        Desk merged = sampled(0, merge(0, first(number(1), number(2)), first(number(3), number(4))));
        merged.passes();
        step(merged, 1, 0, 1, 1);
        step(merged, 1, 0, 1, 2);
        step(merged, 0, 0, 1, 3);
        step(merged, 1, 0, 1, 2);
        step(merged, 0, 0, 1, 4);
    }

    @Says(under = "Terms",
        words = "within WHEN and UNLESS e has all instants of the clock of k, also those at which the whole is not there.)")
    static void withinWhenAndUnlessAllInstantsOfTheClockOfKCount() {
        Desk when = sampled(1, when(0, first(number(-1), before(flow(1)))));
        when.passes();
        step(when, 0, 10, 0, ELEMENT);
        step(when, 1, 11, 1, 10);
        step(when, 0, 12, 0, 10);
        step(when, 0, 13, 0, 10);
        step(when, 1, 14, 1, 13);
        step(when, 1, 15, 1, 14);
        Desk unless = sampled(2, unless(0, first(number(-1), before(flow(1)))));
        unless.passes();
        step(unless, 0, 10, 1, -1);
        step(unless, 1, 11, 0, -1);
        step(unless, 1, 12, 0, -1);
        step(unless, 0, 13, 1, 12);
        Desk first = sampled(1, when(0, first(number(5), number(6))));
        first.passes();
        step(first, 0, 0, 0, ELEMENT);
        step(first, 1, 0, 1, 6);
    }

    @Says(under = "Terms",
        words = "within WHEN and UNLESS e has all instants of the clock of k, also those at which the whole is not there.)")
    static void withinWhenTheClockOfKMayBeAnotherThanTheBasicOne() {
        Desk desk = new Desk();
        int outer = desk.boolInput(0);
        int inner = desk.boolInput(1);
        int number = desk.intInput(1);
        int result = desk.intFlow(3);
        desk.define(result, when(inner, first(number(-1), before(flow(number)))));
        desk.passes();
        int[][] steps = {
            // outer, inner, number; then whether the result is there and what it was last.
            {1, 0, 10, 0, 99}, {0, 1, 11, 0, 99}, {0, 1, 12, 0, 99}, {1, 1, 13, 1, 10}, {0, 0, 14, 0, 10}, {1, 0, 15, 0, 10},
            {1, 1, 16, 1, 15},
        };
        for (int[] step : steps) {
            desk.host(outer, step[0]);
            desk.host(inner, step[1]);
            desk.host(number, step[2]);
            desk.go(1);
            Due.is(step[3], desk.present(result));
            Due.is(step[4] == 99 ? ELEMENT : step[4], desk.value(result));
        }
    }
}
