/** The edges of event's self and other (promise 3). */
public final class ParentEdgesTest {
    private static final Checks CHECKS = new Checks("ParentEdgesTest");

    public static void main(String[] args) {
        minusOneIsNoSelfParent();
        minusOneIsNoOtherParent();
        selfTakesTheFirstAndTheLastEvent();
        otherTakesTheFirstAndTheLastEvent();
        selfRefusesNumbersOfNoEvent();
        otherRefusesNumbersOfNoEvent();
        selfRefusesTheEventThatWouldBeMade();
        otherRefusesTheEventThatWouldBeMade();
        selfRefusesEventsOfOthers();
        otherRefusesEventsOfTheNodeItself();
        oneEventIsNeverBothParents();
        oneWrongParentIsEnough();
        CHECKS.end();
    }

    private static void minusOneIsNoSelfParent() {
        CHECKS.about("3: self: -1 for none");
        SightGraph g = Graphs.dialogue(4);
        CHECKS.due("event(0, -1, 3)", 4, g.event(0, -1, 3));
        CHECKS.isTrue("ancestor(4, 2), by event 3", g.ancestor(4, 2));
        CHECKS.isFalse("own(4, 2)", g.own(4, 2));
        CHECKS.isFalse("own(4, 0)", g.own(4, 0));
        CHECKS.isTrue("witness(4)", g.witness(4));
    }

    private static void minusOneIsNoOtherParent() {
        CHECKS.about("3: other: -1 for none");
        SightGraph g = Graphs.dialogue(2);
        CHECKS.due("event(0, 0, -1)", 2, g.event(0, 0, -1));
        CHECKS.isTrue("ancestor(2, 0)", g.ancestor(2, 0));
        CHECKS.isFalse("ancestor(2, 1)", g.ancestor(2, 1));
        CHECKS.due("event(1, -1, -1)", 3, g.event(1, -1, -1));
        for (int y = 0; y < 3; y++) {
            CHECKS.isFalse("ancestor(3, " + y + ")", g.ancestor(3, y));
        }
    }

    private static void selfTakesTheFirstAndTheLastEvent() {
        CHECKS.about("3: self is no EVENT of it; the first and the last are");
        for (int size : new int[] {1, 2, 63, 64, 65, 118, 119}) {
            SightGraph first = Graphs.chain(size);
            CHECKS.due("event(0, 0, -1) of " + size, size, first.event(0, 0, -1));
            CHECKS.isTrue("own(" + size + ", 0)", first.own(size, 0));
            CHECKS.due("own of the last of " + size, size == 1, first.own(size, size - 1));
            SightGraph last = Graphs.chain(size);
            CHECKS.due("event(0, " + (size - 1) + ", -1)", size, last.event(0, size - 1, -1));
            CHECKS.isTrue("own(" + size + ", " + (size - 1) + ")", last.own(size, size - 1));
        }
    }

    private static void otherTakesTheFirstAndTheLastEvent() {
        CHECKS.about("3: other no EVENT of another one; the first and the last are");
        for (int size : new int[] {1, 2, 63, 64, 65, 118, 119}) {
            SightGraph first = Graphs.chain(size);
            CHECKS.due("event(3, -1, 0) of " + size, size, first.event(3, -1, 0));
            CHECKS.isTrue("ancestor(" + size + ", 0)", first.ancestor(size, 0));
            CHECKS.due("ancestor, the last of " + size, size == 1, first.ancestor(size, size - 1));
            SightGraph last = Graphs.chain(size);
            CHECKS.due("event(3, -1, " + (size - 1) + ")", size, last.event(3, -1, size - 1));
            CHECKS.isTrue("ancestor(" + size + ", " + (size - 1) + ")", last.ancestor(size, size - 1));
        }
    }

    private static void selfRefusesNumbersOfNoEvent() {
        CHECKS.about("3: self is no EVENT of it");
        for (int size : new int[] {0, 1, 2, 63, 64, 65, 119, 120}) {
            SightGraph g = Graphs.chain(size);
            for (int self : Numbers.noParents(size)) {
                String call = "event(0, " + self + ", -1) of " + size + " events";
                CHECKS.throwsArgument(call, () -> g.event(0, self, -1));
            }
            CHECKS.due("count(0)", size, g.count(0));
        }
    }

    private static void otherRefusesNumbersOfNoEvent() {
        CHECKS.about("3: other no EVENT of another one");
        for (int size : new int[] {0, 1, 2, 63, 64, 65, 119, 120}) {
            SightGraph g = Graphs.chain(size);
            for (int other : Numbers.noParents(size)) {
                String call = "event(1, -1, " + other + ") of " + size + " events";
                CHECKS.throwsArgument(call, () -> g.event(1, -1, other));
            }
            CHECKS.due("count(0)", size, g.count(0));
        }
    }

    private static void selfRefusesTheEventThatWouldBeMade() {
        CHECKS.about("3: self is no EVENT of it; none is its own SELF-PARENT");
        SightGraph g = new SightGraph();
        for (int e = 0; e < Graphs.MOST_EVENTS; e++) {
            int made = e;
            CHECKS.throwsArgument("event(0, " + e + ", -1)", () -> g.event(0, made, -1));
            g.event(0, e - 1, -1);
        }
    }

    private static void otherRefusesTheEventThatWouldBeMade() {
        CHECKS.about("3: other no EVENT of another one; none is its own OTHER-PARENT");
        SightGraph g = new SightGraph();
        for (int e = 0; e < Graphs.MOST_EVENTS; e++) {
            int made = e;
            CHECKS.throwsArgument("event(1, -1, " + e + ")", () -> g.event(1, -1, made));
            g.event(0, e - 1, -1);
        }
    }

    private static void selfRefusesEventsOfOthers() {
        CHECKS.about("3: self is no EVENT of it, but one of another");
        for (int n = Numbers.LEAST_NODES; n <= Numbers.MOST_NODES; n++) {
            SightGraph g = roots(n);
            for (int node = 0; node < n; node++) {
                refusesAsSelf(g, node, n);
            }
            CHECKS.due("count(0) of " + n, n, g.count(0));
        }
    }

    private static SightGraph roots(int nodes) {
        SightGraph g = Graphs.begun(nodes);
        for (int node = 0; node < nodes; node++) {
            g.event(node, -1, -1);
        }
        return g;
    }

    private static void refusesAsSelf(SightGraph g, int node, int events) {
        for (int self = 0; self < events; self++) {
            int parent = self;
            if (self != node) {
                CHECKS.throwsArgument("event(" + node + ", " + self + ", -1)", () -> g.event(node, parent, -1));
            }
        }
    }

    private static void otherRefusesEventsOfTheNodeItself() {
        CHECKS.about("3: other no EVENT of another one, but of the NODE itself");
        for (int n = Numbers.LEAST_NODES; n <= Numbers.MOST_NODES; n++) {
            SightGraph g = roots(n);
            for (int node = 0; node < n; node++) {
                int own = node;
                CHECKS.throwsArgument("event(" + node + ", -1, " + node + ")", () -> g.event(own, -1, own));
            }
            CHECKS.due("count(0) of " + n, n, g.count(0));
        }
    }

    private static void oneEventIsNeverBothParents() {
        CHECKS.about("3: self is no EVENT of it, other no EVENT of another one");
        SightGraph g = Graphs.dialogue(4);
        for (int parent = 0; parent < 4; parent++) {
            int both = parent;
            CHECKS.throwsArgument("event(0, " + parent + ", the same)", () -> g.event(0, both, both));
            CHECKS.throwsArgument("event(1, " + parent + ", the same)", () -> g.event(1, both, both));
        }
        CHECKS.due("count(0)", 4, g.count(0));
    }

    private static void oneWrongParentIsEnough() {
        CHECKS.about("3: self is no EVENT of it, other no EVENT of another one");
        SightGraph g = Graphs.dialogue(4);
        CHECKS.throwsArgument("a right self, other of the node", () -> g.event(0, 2, 0));
        CHECKS.throwsArgument("a right self, other unmade", () -> g.event(0, 2, 4));
        CHECKS.throwsArgument("a right self, other -2", () -> g.event(0, 2, -2));
        CHECKS.throwsArgument("a right other, self of another", () -> g.event(0, 1, 3));
        CHECKS.throwsArgument("a right other, self unmade", () -> g.event(0, 4, 3));
        CHECKS.throwsArgument("a right other, self -2", () -> g.event(0, -2, 3));
        CHECKS.throwsArgument("the two exchanged", () -> g.event(0, 3, 2));
        CHECKS.due("event(0, 2, 3), both right", 4, g.event(0, 2, 3));
    }
}
