/**
 * Arguments that the document rules out: the two next to the edges, the ends of int, and some that an int's
 * wrap-around, a shift's mask or a cut to a byte would make an allowed one.
 */
final class Outside {
    static final int[] KINDS = {-1, 8, -8, 9, 256, -256, Integer.MIN_VALUE, Integer.MAX_VALUE};
    /** -1 is allowed where a call wants a KIND. */
    static final int[] WANTS = {-2, 8, -8, 9, 255, -256, Integer.MIN_VALUE, Integer.MAX_VALUE};
    static final int[] CALLS = {-1, 10, -10, 11, 256, -256, Integer.MIN_VALUE, Integer.MAX_VALUE};
    static final int[] SORTS = {-1, 7, -7, 8, 256, -256, Integer.MIN_VALUE, Integer.MAX_VALUE};
    static final int[] ACTS = {-1, 6, -6, 7, 256, -256, Integer.MIN_VALUE, Integer.MAX_VALUE};
    static final int[] WITHS = {0, 6, -1, 7, 257, -255, Integer.MIN_VALUE, Integer.MAX_VALUE};
    static final int[] NUMBERS = {0, 41, -1, -40, 33 + 32, 63, 64, 65, -63, 257, Integer.MIN_VALUE + 1,
        Integer.MIN_VALUE, Integer.MAX_VALUE};
    static final int[] WHATS = {-1, 7, -7, 8, 256, -256, Integer.MIN_VALUE, Integer.MAX_VALUE};
    static final int[] VALUES = {-1, 20, 21, 256, -256, Integer.MIN_VALUE, Integer.MAX_VALUE};

    private Outside() {
    }
}
