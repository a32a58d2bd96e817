/** Promise 3: event. */
public final class EventTest {
    private static final Checks CHECKS = new Checks("EventTest");

    public static void main(String[] args) {
        numbersFollowOneAnother();
        anyEarlierEventMayBeParent();
        refusesUnknownNodes();
        refusesWrongSelfParents();
        refusesWrongOtherParents();
        refusesTheHundredAndTwentyFirst();
        looksAtArgumentsBeforeTheLimit();
        CHECKS.end();
    }

    private static void numbersFollowOneAnother() {
        SightGraph g = new SightGraph();
        CHECKS.due("no parents", 0, g.event(2, -1, -1));
        CHECKS.due("other-parent alone", 1, g.event(1, -1, 0));
        CHECKS.due("self-parent alone", 2, g.event(1, 1, -1));
        CHECKS.due("both parents", 3, g.event(2, 0, 2));
        CHECKS.due("count(0)", 4, g.count(0));
    }

    private static void anyEarlierEventMayBeParent() {
        SightGraph g = Graphs.dialogue(6);
        CHECKS.due("an old self-parent", 6, g.event(0, 0, 5));
        CHECKS.due("an old other-parent", 7, g.event(0, 6, 1));
        CHECKS.due("no self-parent once more", 8, g.event(0, -1, 1));
        CHECKS.isTrue("own(7, 0)", g.own(7, 0));
        CHECKS.isFalse("own(7, 2)", g.own(7, 2));
        CHECKS.isFalse("own(8, 0)", g.own(8, 0));
    }

    private static void refusesUnknownNodes() {
        SightGraph g = new SightGraph();
        g.event(0, -1, -1);
        for (int node : new int[] {Integer.MIN_VALUE, -2, -1, 4, 5, 8, Integer.MAX_VALUE}) {
            CHECKS.throwsArgument("event(" + node + ", -1, -1)", () -> g.event(node, -1, -1));
            CHECKS.throwsArgument("event(" + node + ", -1, 0)", () -> g.event(node, -1, 0));
        }
        CHECKS.due("count(0)", 1, g.count(0));
    }

    private static void refusesWrongSelfParents() {
        SightGraph g = Graphs.dialogue(5);
        for (int self : new int[] {Integer.MIN_VALUE, -2, 1, 3, 5, 6, 119, 120, Integer.MAX_VALUE}) {
            CHECKS.throwsArgument("event(0, " + self + ", -1)", () -> g.event(0, self, -1));
            CHECKS.throwsArgument("event(0, " + self + ", 1)", () -> g.event(0, self, 1));
        }
        CHECKS.due("count(0)", 5, g.count(0));
    }

    private static void refusesWrongOtherParents() {
        SightGraph g = Graphs.dialogue(5);
        for (int other : new int[] {Integer.MIN_VALUE, -2, 0, 2, 4, 5, 6, 119, 120, Integer.MAX_VALUE}) {
            CHECKS.throwsArgument("event(0, -1, " + other + ")", () -> g.event(0, -1, other));
            CHECKS.throwsArgument("event(0, 4, " + other + ")", () -> g.event(0, 4, other));
        }
        CHECKS.due("count(0)", 5, g.count(0));
    }

    private static void refusesTheHundredAndTwentyFirst() {
        SightGraph g = Graphs.fullChain();
        CHECKS.due("count(0)", 120, g.count(0));
        CHECKS.throwsIndex("no parents", () -> g.event(1, -1, -1));
        CHECKS.throwsIndex("self-parent 119", () -> g.event(0, 119, -1));
        CHECKS.throwsIndex("other-parent 119", () -> g.event(1, -1, 119));
        CHECKS.due("count(0) still", 120, g.count(0));
        g.begin(3);
        CHECKS.due("the first after begin", 0, g.event(2, -1, -1));
    }

    private static void looksAtArgumentsBeforeTheLimit() {
        SightGraph g = Graphs.fullChain();
        CHECKS.throwsArgument("event(4, -1, -1)", () -> g.event(4, -1, -1));
        CHECKS.throwsArgument("event(-1, -1, -1)", () -> g.event(-1, -1, -1));
        CHECKS.throwsArgument("event(1, 119, -1)", () -> g.event(1, 119, -1));
        CHECKS.throwsArgument("event(0, 120, -1)", () -> g.event(0, 120, -1));
        CHECKS.throwsArgument("event(0, -2, -1)", () -> g.event(0, -2, -1));
        CHECKS.throwsArgument("event(0, -1, 119)", () -> g.event(0, -1, 119));
        CHECKS.throwsArgument("event(1, -1, 120)", () -> g.event(1, -1, 120));
    }
}
