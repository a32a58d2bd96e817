/** Graphs that several tests look at. */
final class Graphs {
    static final int NONE = -1;
    static final int MOST_EVENTS = 120;
    static final int[] NO_INDEX = {-1, -2, Integer.MIN_VALUE, MOST_EVENTS, Integer.MAX_VALUE};

    private Graphs() {
    }

    static SightGraph begun(int nodes) {
        SightGraph g = new SightGraph();
        g.begin(nodes);
        return g;
    }

    /** Two nodes that answer each other in turn: 0 and 1 are roots, then 2 of node 0 names 1, and so on. */
    static SightGraph dialogue(int events) {
        SightGraph g = begun(2);
        for (int e = 0; e < events; e++) {
            g.event(e % 2, e < 2 ? NONE : e - 2, e < 2 ? NONE : e - 1);
        }
        return g;
    }

    /**
     * Node 0 forks into events 0 and 1. Nodes 1 to 3 have seen 0 alone (2, 3, 4), node 1 gathers
     * them (5, 6), node 2 hears of the other branch (7) and then of what node 1 gathered (8).
     */
    static SightGraph lateFork() {
        SightGraph g = new SightGraph();
        addLateFork(g);
        return g;
    }

    static void addLateFork(SightGraph g) {
        g.event(0, NONE, NONE);
        g.event(0, NONE, NONE);
        g.event(1, NONE, 0);
        g.event(2, NONE, 0);
        g.event(3, NONE, 0);
        g.event(1, 2, 3);
        g.event(1, 5, 4);
        g.event(2, 3, 1);
        g.event(2, 7, 6);
    }

    /** Events of node 0 alone, of four nodes, each the self-parent of the next. */
    static SightGraph chain(int events) {
        SightGraph g = new SightGraph();
        for (int e = 0; e < events; e++) {
            g.event(0, e - 1, NONE);
        }
        return g;
    }

    /** As many events as there may be, all of node 0 in one chain. */
    static SightGraph fullChain() {
        return chain(MOST_EVENTS);
    }
}
