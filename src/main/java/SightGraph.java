/**
 * Events of nodes that may fork: who sees what, how strongly, and in which round.
 * A parent is always made before its child, so every ancestor has a smaller number.
 */
public final class SightGraph {
    private static final int FIRST_NODES = 4;
    private static final int LEAST_NODES = 2;
    private static final int MOST_NODES = 8;
    private static final int MOST_EVENTS = 120;
    private static final int NONE = -1;
    private static final int FIRST_ROUND = 1;
    private static final int WORD = 64;

    private int nodes;
    private int events;

    // One place an event. The rows are made once: begin only forgets how far they are filled.
    private final int[] creators;
    private final int[] selfParents;
    private final int[] rounds;
    // A bit a node: those with a fork among the event's ancestors.
    private final int[] forkers;
    // A bit an ancestor: events 0 to 63 in the low word, 64 and above in the high one.
    private final long[] lowAncestors;
    private final long[] highAncestors;

    public SightGraph() {
        nodes = FIRST_NODES;
        events = 0;
        creators = new int[MOST_EVENTS];
        selfParents = new int[MOST_EVENTS];
        rounds = new int[MOST_EVENTS];
        forkers = new int[MOST_EVENTS];
        lowAncestors = new long[MOST_EVENTS];
        highAncestors = new long[MOST_EVENTS];
    }

    public void begin(int n) throws IllegalArgumentException {
        if (n < LEAST_NODES || n > MOST_NODES) {
            throw new IllegalArgumentException("the number of nodes is not 2 to 8");
        }
        nodes = n;
        events = 0;
    }

    public int event(int node, int self, int other)
            throws IllegalArgumentException, IndexOutOfBoundsException {
        requireNode(node);
        if (!mayBeSelfParent(node, self)) {
            throw new IllegalArgumentException("the self-parent is no event of the node");
        }
        if (!mayBeOtherParent(node, other)) {
            throw new IllegalArgumentException("the other-parent is no event of another node");
        }
        if (events >= MOST_EVENTS) {
            throw new IndexOutOfBoundsException("there are 120 events");
        }
        int made = events;
        creators[made] = node;
        selfParents[made] = self;
        gatherAncestors(made, self, other);
        forkers[made] = forkersWithin(lowAncestors[made], highAncestors[made]);
        rounds[made] = roundFrom(made, self, other);
        events = made + 1;
        return made;
    }

    public boolean ancestor(int x, int y) throws IndexOutOfBoundsException {
        requireEvent(x);
        requireEvent(y);
        return hasAncestor(x, y);
    }

    public boolean own(int x, int y) throws IndexOutOfBoundsException {
        requireEvent(x);
        requireEvent(y);
        // Counting down, not following the chain, so that the loop's end is plain.
        int next = x;
        for (int e = x; e > y; e--) {
            if (e == next) {
                next = selfParents[e];
            }
        }
        return next == y;
    }

    public boolean forked(int x, int node)
            throws IllegalArgumentException, IndexOutOfBoundsException {
        requireNode(node);
        requireEvent(x);
        return hasBit(forkers[x], node);
    }

    public boolean sees(int x, int y) throws IndexOutOfBoundsException {
        requireEvent(x);
        requireEvent(y);
        return hasSight(x, y);
    }

    public int strength(int x, int y) throws IndexOutOfBoundsException {
        requireEvent(x);
        requireEvent(y);
        return nodesBetween(x, y);
    }

    public boolean strongly(int x, int y) throws IndexOutOfBoundsException {
        requireEvent(x);
        requireEvent(y);
        return isMany(nodesBetween(x, y));
    }

    public int round(int x) throws IndexOutOfBoundsException {
        requireEvent(x);
        return rounds[x];
    }

    public boolean witness(int x) throws IndexOutOfBoundsException {
        requireEvent(x);
        return opensRound(x);
    }

    public int count(int what) throws IllegalArgumentException {
        switch (what) {
            case 0:
                return events;
            case 1:
                return nodes;
            case 2:
                return Integer.bitCount(forkersOfAll());
            case 3:
                return greatestRound();
            default:
                throw new IllegalArgumentException("there is no such count");
        }
    }

    private void requireNode(int node) {
        if (node < 0 || node >= nodes) {
            throw new IllegalArgumentException("there is no such node");
        }
    }

    private void requireEvent(int x) {
        if (!isEvent(x)) {
            throw new IndexOutOfBoundsException("there is no such event");
        }
    }

    private boolean isEvent(int x) {
        return x >= 0 && x < events;
    }

    private boolean mayBeSelfParent(int node, int self) {
        return self == NONE || isEvent(self) && creators[self] == node;
    }

    private boolean mayBeOtherParent(int node, int other) {
        return other == NONE || isEvent(other) && creators[other] != node;
    }

    private void gatherAncestors(int made, int self, int other) {
        lowAncestors[made] = made < WORD ? 1L << made : 0L;
        highAncestors[made] = made < WORD ? 0L : 1L << (made - WORD);
        addAncestorsOf(made, self);
        addAncestorsOf(made, other);
    }

    private void addAncestorsOf(int made, int parent) {
        if (parent != NONE) {
            lowAncestors[made] |= lowAncestors[parent];
            highAncestors[made] |= highAncestors[parent];
        }
    }

    private boolean hasAncestor(int x, int y) {
        return isWithin(lowAncestors[x], highAncestors[x], y);
    }

    private static boolean isWithin(long low, long high, int e) {
        long word = e < WORD ? low >>> e : high >>> (e - WORD);
        return (word & 1L) != 0L;
    }

    private static boolean hasBit(int bits, int node) {
        return (bits >>> node & 1) != 0;
    }

    private static long lowestBits(int many) {
        if (many <= 0) {
            return 0L;
        }
        // A shift by 64 would be one by 0.
        return many >= WORD ? -1L : (1L << many) - 1L;
    }

    private int forkersOfAll() {
        return forkersWithin(lowestBits(events), lowestBits(events - WORD));
    }

    private int forkersWithin(long low, long high) {
        int found = 0;
        for (int node = 0; node < nodes; node++) {
            if (hasForkWithin(low, high, node)) {
                found |= 1 << node;
            }
        }
        return found;
    }

    // The set holds the self-parents of all its events: without a fork, the node's events
    // in it are then one chain, each the self-parent of the one met before it.
    private boolean hasForkWithin(long low, long high, int node) {
        boolean met = false;
        int next = NONE;
        for (int e = MOST_EVENTS - 1; e >= 0; e--) {
            if (isWithin(low, high, e) && creators[e] == node) {
                if (met && e != next) {
                    return true;
                }
                met = true;
                next = selfParents[e];
            }
        }
        return false;
    }

    private boolean hasSight(int x, int y) {
        return hasAncestor(x, y) && !hasBit(forkers[x], creators[y]);
    }

    private int nodesBetween(int x, int y) {
        int found = 0;
        // Ancestors have smaller numbers, so what x sees and what sees y lies from y to x.
        for (int z = y; z <= x; z++) {
            if (hasSight(x, z) && hasSight(z, y)) {
                found |= 1 << creators[z];
            }
        }
        return Integer.bitCount(found);
    }

    private boolean isMany(int some) {
        return 3 * some > 2 * nodes;
    }

    private int roundFrom(int made, int self, int other) {
        if (self == NONE && other == NONE) {
            return FIRST_ROUND;
        }
        int r = Math.max(roundOfParent(self), roundOfParent(other));
        return isMany(nodesWithWitnessFor(made, r)) ? r + 1 : r;
    }

    private int roundOfParent(int parent) {
        return parent == NONE ? 0 : rounds[parent];
    }

    private int nodesWithWitnessFor(int made, int r) {
        int found = 0;
        // The new event has no round yet; it is never among them, for between it and itself
        // there is one node at most, and one of two or more nodes is not many.
        for (int w = 0; w < made; w++) {
            if (rounds[w] == r && opensRound(w) && isMany(nodesBetween(made, w))) {
                found |= 1 << creators[w];
            }
        }
        return Integer.bitCount(found);
    }

    private boolean opensRound(int x) {
        int self = selfParents[x];
        return self == NONE || rounds[self] < rounds[x];
    }

    private int greatestRound() {
        int greatest = 0;
        for (int e = 0; e < events; e++) {
            greatest = Math.max(greatest, rounds[e]);
        }
        return greatest;
    }
}
