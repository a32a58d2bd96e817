/** Promises 4 and 5: ancestor, own. */
public final class AncestryTest {
    private static final Checks CHECKS = new Checks("AncestryTest");

    public static void main(String[] args) {
        ancestorsComeThroughBothParents();
        forkedAncestorsStayAncestors();
        ownGoesThroughSelfParentsAlone();
        longChainsHoldTogether();
        strangersStayApart();
        refusesUnknownEvents();
        CHECKS.end();
    }

    private static void ancestorsComeThroughBothParents() {
        SightGraph g = new SightGraph();
        g.event(0, -1, -1);
        g.event(1, -1, -1);
        g.event(2, -1, 1);
        g.event(0, 0, 2);
        g.event(3, -1, -1);
        CHECKS.isTrue("itself", g.ancestor(0, 0));
        CHECKS.isTrue("the self-parent", g.ancestor(3, 0));
        CHECKS.isTrue("the other-parent", g.ancestor(3, 2));
        CHECKS.isTrue("the other-parent's other-parent", g.ancestor(3, 1));
        CHECKS.isFalse("a child", g.ancestor(0, 3));
        CHECKS.isFalse("an earlier stranger", g.ancestor(2, 0));
        CHECKS.isFalse("a stranger of no parents", g.ancestor(4, 3));
    }

    private static void forkedAncestorsStayAncestors() {
        SightGraph g = Graphs.lateFork();
        CHECKS.isTrue("ancestor(8, 0)", g.ancestor(8, 0));
        CHECKS.isTrue("ancestor(8, 1)", g.ancestor(8, 1));
        CHECKS.isFalse("ancestor(6, 1)", g.ancestor(6, 1));
    }

    private static void ownGoesThroughSelfParentsAlone() {
        SightGraph g = Graphs.dialogue(6);
        CHECKS.isTrue("itself", g.own(5, 5));
        CHECKS.isTrue("the self-parent", g.own(5, 3));
        CHECKS.isTrue("the self-parent's", g.own(5, 1));
        CHECKS.isFalse("the other-parent", g.own(5, 4));
        CHECKS.isFalse("the self-parent's other-parent", g.own(5, 2));
        CHECKS.isFalse("a self-child", g.own(3, 5));
        g.event(0, 0, 5);
        CHECKS.isTrue("own(6, 0)", g.own(6, 0));
        CHECKS.isFalse("the other branch, an ancestor", g.own(6, 4));
        CHECKS.isTrue("that ancestor", g.ancestor(6, 4));
    }

    private static void longChainsHoldTogether() {
        Replayed chain = new Replayed(4);
        for (int e = 0; e < Graphs.MOST_EVENTS; e++) {
            chain.event(0, e - 1, -1);
        }
        for (int y = 0; y < Graphs.MOST_EVENTS; y++) {
            SightGraph g = chain.forCalls(5);
            CHECKS.isTrue("ancestor(119, " + y + ")", g.ancestor(119, y));
            CHECKS.isTrue("own(119, " + y + ")", g.own(119, y));
            CHECKS.due("ancestor(64, " + y + ")", y <= 64, g.ancestor(64, y));
            CHECKS.due("own(63, " + y + ")", y <= 63, g.own(63, y));
            CHECKS.due("ancestor(" + y + ", 63)", y >= 63, g.ancestor(y, 63));
        }
    }

    private static void strangersStayApart() {
        Replayed strangers = new Replayed(8);
        for (int e = 0; e < Graphs.MOST_EVENTS; e++) {
            strangers.event(e % 8, -1, -1);
        }
        for (int x = 0; x < Graphs.MOST_EVENTS; x++) {
            for (int y = 0; y < Graphs.MOST_EVENTS; y++) {
                SightGraph g = strangers.forCalls(2);
                CHECKS.due("ancestor(" + x + ", " + y + ")", x == y, g.ancestor(x, y));
                CHECKS.due("own(" + x + ", " + y + ")", x == y, g.own(x, y));
            }
        }
    }

    private static void refusesUnknownEvents() {
        SightGraph g = Graphs.dialogue(3);
        CHECKS.throwsIndex("ancestor(3, 0)", () -> g.ancestor(3, 0));
        CHECKS.throwsIndex("ancestor(0, 3)", () -> g.ancestor(0, 3));
        CHECKS.throwsIndex("own(3, 0)", () -> g.own(3, 0));
        CHECKS.throwsIndex("own(0, 3)", () -> g.own(0, 3));
        for (int x : Graphs.NO_INDEX) {
            CHECKS.throwsIndex("ancestor(" + x + ", 0)", () -> g.ancestor(x, 0));
            CHECKS.throwsIndex("ancestor(0, " + x + ")", () -> g.ancestor(0, x));
            CHECKS.throwsIndex("ancestor of " + x + " twice", () -> g.ancestor(x, x));
            CHECKS.throwsIndex("own(" + x + ", 0)", () -> g.own(x, 0));
            CHECKS.throwsIndex("own(0, " + x + ")", () -> g.own(0, x));
            CHECKS.throwsIndex("own of " + x + " twice", () -> g.own(x, x));
        }
    }
}
