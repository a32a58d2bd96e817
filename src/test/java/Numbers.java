/** Numbers around the edges that the document names. */
final class Numbers {
    static final int LEAST_NODES = 2;
    static final int MOST_NODES = 8;
    static final int MOST_CALLS = 512;

    /** For n nodes the least number of nodes that is more than 2n / 3. */
    private static final int[] LEAST_MANY = {0, 0, 2, 3, 3, 4, 5, 5, 6};

    private Numbers() {
    }

    static int leastMany(int nodes) {
        return LEAST_MANY[nodes];
    }

    /**
     * Numbers outside 0 to size - 1: the nearest, the least and the greatest int, and such as would
     * fall inside if a shift, a byte or a short cut off their upper bits.
     */
    static int[] outside(int size) {
        return new int[] {
            -1, size,
            -2, size + 1,
            Integer.MIN_VALUE, Integer.MAX_VALUE,
            Integer.MIN_VALUE + 1, Integer.MAX_VALUE - 1,
            -64, -128, -256, -65536, 128, 256, 65536, 1 << 30};
    }

    /** As outside, but without -1, which stands for no parent. */
    static int[] noParents(int events) {
        int[] all = outside(events);
        all[0] = -3;
        return all;
    }

    /** Numbers of nodes that no object can have. */
    static int[] noNodeCounts() {
        return new int[] {
            LEAST_NODES - 1, MOST_NODES + 1,
            0, -1, -LEAST_NODES, -MOST_NODES,
            Integer.MIN_VALUE, Integer.MAX_VALUE,
            Integer.MIN_VALUE + 4, 4 - 256, 4 + 256, 4 + 65536, 1 << 30};
    }
}
