/** The edges of NODES: how many there may be, and which numbers they bear (promises 1, 2, 3, 6). */
public final class NodeEdgesTest {
    private static final Checks CHECKS = new Checks("NodeEdgesTest");

    public static void main(String[] args) {
        aNewObjectHasNodesZeroToThree();
        beginTakesTheLeastNumber();
        beginTakesTheGreatestNumber();
        beginRefusesOneTooFew();
        beginRefusesOneTooMany();
        beginRefusesTheLeastAndTheGreatestInt();
        beginRefusesNumbersThatWouldWrapAround();
        eventTakesTheFirstAndTheLastNode();
        eventRefusesTheNodesBesideThem();
        forkedTakesTheFirstAndTheLastNode();
        forkedRefusesTheNodesBesideThem();
        CHECKS.end();
    }

    private static void aNewObjectHasNodesZeroToThree() {
        CHECKS.about("1: 4 NODES, no EVENTS");
        SightGraph g = new SightGraph();
        CHECKS.due("count(1)", 4, g.count(1));
        CHECKS.throwsArgument("event(-1, -1, -1)", () -> g.event(-1, -1, -1));
        CHECKS.throwsArgument("event(4, -1, -1)", () -> g.event(4, -1, -1));
        CHECKS.due("event(0, -1, -1)", 0, g.event(0, -1, -1));
        CHECKS.due("event(3, -1, -1)", 1, g.event(3, -1, -1));
        CHECKS.isFalse("forked(0, 3)", g.forked(0, 3));
        CHECKS.throwsArgument("forked(0, 4)", () -> g.forked(0, 4));
    }

    private static void beginTakesTheLeastNumber() {
        CHECKS.about("2: n is not 2..8; 2 is");
        SightGraph g = new SightGraph();
        g.begin(2);
        CHECKS.due("count(1)", 2, g.count(1));
        CHECKS.due("event(1, -1, -1)", 0, g.event(1, -1, -1));
        CHECKS.throwsArgument("event(2, -1, -1)", () -> g.event(2, -1, -1));
    }

    private static void beginTakesTheGreatestNumber() {
        CHECKS.about("2: n is not 2..8; 8 is");
        SightGraph g = new SightGraph();
        g.begin(8);
        CHECKS.due("count(1)", 8, g.count(1));
        CHECKS.due("event(7, -1, -1)", 0, g.event(7, -1, -1));
        CHECKS.throwsArgument("event(8, -1, -1)", () -> g.event(8, -1, -1));
    }

    private static void beginRefusesOneTooFew() {
        CHECKS.about("2: n is not 2..8; 1 is too small");
        beginRefuses(1);
        beginRefuses(0);
        beginRefuses(-1);
    }

    private static void beginRefusesOneTooMany() {
        CHECKS.about("2: n is not 2..8; 9 is too large");
        beginRefuses(9);
        beginRefuses(10);
    }

    private static void beginRefusesTheLeastAndTheGreatestInt() {
        CHECKS.about("2: n is not 2..8; the ends of int are not");
        beginRefuses(Integer.MIN_VALUE);
        beginRefuses(Integer.MAX_VALUE);
    }

    private static void beginRefusesNumbersThatWouldWrapAround() {
        CHECKS.about("2: n is not 2..8; what ends in the bits of one is not");
        for (int n : Numbers.noNodeCounts()) {
            beginRefuses(n);
        }
    }

    private static void beginRefuses(int n) {
        SightGraph g = new SightGraph();
        CHECKS.throwsArgument("begin(" + n + ")", () -> g.begin(n));
        CHECKS.due("count(1) after begin(" + n + ")", 4, g.count(1));
    }

    private static void eventTakesTheFirstAndTheLastNode() {
        CHECKS.about("3: there is no such NODE; 0 and n - 1 are");
        for (int n = Numbers.LEAST_NODES; n <= Numbers.MOST_NODES; n++) {
            SightGraph g = Graphs.begun(n);
            CHECKS.due("event(0, -1, -1) of " + n, 0, g.event(0, -1, -1));
            CHECKS.due("event(" + (n - 1) + ", -1, -1) of " + n, 1, g.event(n - 1, -1, -1));
        }
    }

    private static void eventRefusesTheNodesBesideThem() {
        CHECKS.about("3: there is no such NODE; -1 and n are none");
        for (int n = Numbers.LEAST_NODES; n <= Numbers.MOST_NODES; n++) {
            SightGraph g = Graphs.begun(n);
            g.event(0, -1, -1);
            for (int node : Numbers.outside(n)) {
                String call = "event(" + node + ", -1, -1) of " + n;
                CHECKS.throwsArgument(call, () -> g.event(node, -1, -1));
                CHECKS.throwsArgument(call + " with a parent", () -> g.event(node, -1, 0));
            }
            CHECKS.due("count(0) of " + n, 1, g.count(0));
        }
    }

    private static void forkedTakesTheFirstAndTheLastNode() {
        CHECKS.about("6: there is no such NODE; 0 and n - 1 are");
        for (int n = Numbers.LEAST_NODES; n <= Numbers.MOST_NODES; n++) {
            CHECKS.isTrue("forked(3, 0) of " + n, forkOf(0, n).forked(3, 0));
            CHECKS.isFalse("forked(3, n - 1) of " + n, forkOf(0, n).forked(3, n - 1));
            CHECKS.isTrue("forked(3, n - 1) of " + n, forkOf(n - 1, n).forked(3, n - 1));
            CHECKS.isFalse("forked(3, 0) of " + n, forkOf(n - 1, n).forked(3, 0));
        }
    }

    /** The node forks into 0 and 1, and another comes to know of both with event 3. */
    private static SightGraph forkOf(int node, int nodes) {
        SightGraph g = Graphs.begun(nodes);
        int another = node == 0 ? 1 : 0;
        g.event(node, -1, -1);
        g.event(node, -1, -1);
        g.event(another, -1, 0);
        g.event(another, 2, 1);
        return g;
    }

    private static void forkedRefusesTheNodesBesideThem() {
        CHECKS.about("6: there is no such NODE; -1 and n are none");
        for (int n = Numbers.LEAST_NODES; n <= Numbers.MOST_NODES; n++) {
            SightGraph g = forkOf(n - 1, n);
            for (int node : Numbers.outside(n)) {
                CHECKS.throwsArgument("forked(3, " + node + ") of " + n, () -> g.forked(3, node));
            }
        }
    }
}
