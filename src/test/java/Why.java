/** What REFUSES, and KINDS, as the document numbers them. */
final class Why {
    static final int ABSENT = 1, MISSING = 2, OUTSIDE = 3, ZERO = 4, EMPTY = 5, SELF = 6, SIZE = 7, VALUE = 8, FULL = 9;
    static final int KIND = 10, DEEP = 11, ENDED = 12, NONE = 13, THERE = 14, TEST = 15;

    static final int INT = 0, LONG = 1, SHORT = 2, BYTE = 3, CHAR = 4;
    static final String[] KINDS = {"int", "long", "short", "byte", "char"};
    static final int[] BITS = {32, 64, 16, 8, 16};
    static final long[] LEAST = {Integer.MIN_VALUE, Long.MIN_VALUE, Short.MIN_VALUE, Byte.MIN_VALUE, 0};
    static final long[] MOST = {Integer.MAX_VALUE, Long.MAX_VALUE, Short.MAX_VALUE, Byte.MAX_VALUE, 65535};

    private Why() {
    }
}
