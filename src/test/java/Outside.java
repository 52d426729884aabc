/** Numbers outside the document's ranges: those next to them, the ends of int, and some that a shift takes for 0. */
final class Outside {
    static final int[] ROUTERS = {-1, 6, 7, 32, Integer.MIN_VALUE, Integer.MAX_VALUE};
    static final int[] HOSTS = {-1, 4, 5, 32, Integer.MIN_VALUE, Integer.MAX_VALUE};
    static final int[] GROUPS = {-1, 3, 4, 32, Integer.MIN_VALUE, Integer.MAX_VALUE};
    static final int[] COSTS = {-1, 10, 11, Integer.MIN_VALUE, Integer.MAX_VALUE};
    static final int[] TICKS = {0, -1, 11, 12, Integer.MIN_VALUE, Integer.MAX_VALUE};
    static final int[] KINDS = {-1, 10, 11, Integer.MIN_VALUE, Integer.MAX_VALUE};
    static final int[] LOSSES = {-1, 10, 11, Integer.MIN_VALUE, Integer.MAX_VALUE};
    static final int[] BLOCKS = {0, -1, 17, 18, Integer.MIN_VALUE, Integer.MAX_VALUE};
    static final int[] FILES = {-1, 4, 5, 32, Integer.MIN_VALUE, Integer.MAX_VALUE};

    private Outside() {
    }
}
