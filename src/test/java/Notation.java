import java.util.stream.IntStream;
import java.util.stream.Stream;

/** Expressions by their names in the document, each as its row of bytes; test classes extend it to use these plainly. */
abstract class Notation {
    static final long DONE = Desk.DONE;
    static final long ARGUMENT = Desk.ARGUMENT;
    static final long STATE = Desk.STATE;
    static final long ELEMENT = Desk.ELEMENT;

    static final int LOWEST = Integer.MIN_VALUE;
    static final int HIGHEST = Integer.MAX_VALUE;

    static int[] join(int[]... rows) {
        return Stream.of(rows).flatMapToInt(IntStream::of).toArray();
    }

    static int[] row(int... bytes) {
        return bytes;
    }

    static int[] number(int value) {
        return row(0, value + 128);
    }

    static int[] yes() {
        return row(1);
    }

    static int[] no() {
        return row(2);
    }

    static int[] flow(int k) {
        return row(3, k);
    }

    static int[] not(int[] e) {
        return join(row(4), e);
    }

    static int[] minus(int[] e) {
        return join(row(5), e);
    }

    static int[] add(int[] e, int[] f) {
        return join(row(6), e, f);
    }

    static int[] subtract(int[] e, int[] f) {
        return join(row(7), e, f);
    }

    static int[] multiply(int[] e, int[] f) {
        return join(row(8), e, f);
    }

    static int[] less(int[] e, int[] f) {
        return join(row(9), e, f);
    }

    static int[] equal(int[] e, int[] f) {
        return join(row(10), e, f);
    }

    static int[] and(int[] e, int[] f) {
        return join(row(11), e, f);
    }

    static int[] or(int[] e, int[] f) {
        return join(row(12), e, f);
    }

    /** IF, which is no name for a method. */
    static int[] choose(int[] e, int[] f, int[] g) {
        return join(row(13), e, f, g);
    }

    static int[] before(int[] e) {
        return join(row(14), e);
    }

    static int[] first(int[] e, int[] f) {
        return join(row(15), e, f);
    }

    static int[] when(int k, int[] e) {
        return join(row(16, k), e);
    }

    static int[] unless(int k, int[] e) {
        return join(row(17, k), e);
    }

    static int[] merge(int k, int[] e, int[] f) {
        return join(row(18, k), e, f);
    }

    /** -(8 + (4 - end)), written in just 40 bytes if the end, which begins at byte 38, has two. */
    static int[] fortyBytes(int[] end) {
        int[] two = add(number(1), number(1));
        int[] four = add(two, two);
        return minus(add(add(four, four), add(four, minus(end))));
    }

    /** 1 at the first instant of its clock, and one more at each other; itself the equation of a flow. */
    static int[] counter(int itself) {
        return first(number(1), add(number(1), before(flow(itself))));
    }
}
