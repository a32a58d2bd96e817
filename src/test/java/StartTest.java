/** Promises 1 and 2: a new object, begin. */
public final class StartTest {
    private static final Checks CHECKS = new Checks("StartTest");

    public static void main(String[] args) {
        newObjectHasFourNodesAndNoEvents();
        beginTakesTwoToEightNodes();
        beginForgetsAllEvents();
        beginRefusesOtherNumbers();
        objectsAreApart();
        CHECKS.end();
    }

    private static void newObjectHasFourNodesAndNoEvents() {
        SightGraph g = new SightGraph();
        CHECKS.due("count(0)", 0, g.count(0));
        CHECKS.due("count(1)", 4, g.count(1));
        CHECKS.due("count(2)", 0, g.count(2));
        CHECKS.due("count(3)", 0, g.count(3));
        CHECKS.throwsIndex("round(0)", () -> g.round(0));
        CHECKS.due("event of node 3", 0, g.event(3, -1, -1));
        CHECKS.throwsArgument("event of node 4", () -> g.event(4, -1, -1));
    }

    private static void beginTakesTwoToEightNodes() {
        SightGraph g = new SightGraph();
        for (int n = 2; n <= 8; n++) {
            int nodes = n;
            g.begin(n);
            CHECKS.due("count(1) after begin(" + n + ")", n, g.count(1));
            CHECKS.due("count(0) after begin(" + n + ")", 0, g.count(0));
            CHECKS.due("event of the last of " + n, 0, g.event(n - 1, -1, -1));
            CHECKS.throwsArgument("event of node " + n, () -> g.event(nodes, -1, -1));
            CHECKS.throwsArgument("forked of node " + n, () -> g.forked(0, nodes));
        }
    }

    private static void beginForgetsAllEvents() {
        SightGraph g = Graphs.lateFork();
        g.begin(4);
        CHECKS.due("count(0)", 0, g.count(0));
        CHECKS.due("count(2)", 0, g.count(2));
        CHECKS.due("count(3)", 0, g.count(3));
        CHECKS.throwsIndex("ancestor(0, 0)", () -> g.ancestor(0, 0));
        CHECKS.throwsArgument("event(0, 0, -1)", () -> g.event(0, 0, -1));
        CHECKS.throwsArgument("event(1, -1, 0)", () -> g.event(1, -1, 0));
        CHECKS.due("event(0, -1, -1)", 0, g.event(0, -1, -1));
        CHECKS.due("event(1, -1, 0)", 1, g.event(1, -1, 0));
        CHECKS.due("event(1, 1, 0)", 2, g.event(1, 1, 0));
        CHECKS.isTrue("sees(2, 0)", g.sees(2, 0));
        CHECKS.isFalse("forked(2, 0)", g.forked(2, 0));
        CHECKS.due("count(2) of the new events", 0, g.count(2));
        CHECKS.due("count(3) of the new events", 1, g.count(3));
    }

    private static void beginRefusesOtherNumbers() {
        SightGraph g = Graphs.dialogue(3);
        for (int n : new int[] {Integer.MIN_VALUE, -4, -1, 0, 1, 9, 10, 100, Integer.MAX_VALUE}) {
            CHECKS.throwsArgument("begin(" + n + ")", () -> g.begin(n));
            CHECKS.due("count(0) after begin(" + n + ")", 3, g.count(0));
            CHECKS.due("count(1) after begin(" + n + ")", 2, g.count(1));
        }
    }

    private static void objectsAreApart() {
        SightGraph one = Graphs.dialogue(6);
        SightGraph two = new SightGraph();
        CHECKS.due("events of the second object", 0, two.count(0));
        CHECKS.due("nodes of the second object", 4, two.count(1));
        two.event(3, -1, -1);
        CHECKS.due("events of the first object", 6, one.count(0));
        CHECKS.isTrue("ancestor(5, 0) of the first object", one.ancestor(5, 0));
    }
}
