/** An object that holds no event yet: new, begun, or begun again. */
public final class EmptyTest {
    private static final Checks CHECKS = new Checks("EmptyTest");

    public static void main(String[] args) {
        aNewObjectHoldsNone();
        aBegunObjectHoldsNone();
        anObjectBegunAgainHoldsNone();
        noPairOfEventsIsKnown();
        noSingleEventIsKnown();
        nodesAreLookedAtAllTheSame();
        noEventCanBeAParent();
        theFirstEventIsNumberZero();
        theFirstEventIsAloneWithItself();
        CHECKS.end();
    }

    private static void aNewObjectHoldsNone() {
        CHECKS.about("1: 4 NODES, no EVENTS; 12: the greatest ROUND (0 without EVENTS)");
        countsOfEmpty(new SightGraph(), 4);
    }

    private static void aBegunObjectHoldsNone() {
        CHECKS.about("2: n NODES, no EVENTS; 12: the greatest ROUND (0 without EVENTS)");
        for (int n = Numbers.LEAST_NODES; n <= Numbers.MOST_NODES; n++) {
            countsOfEmpty(Graphs.begun(n), n);
        }
    }

    private static void anObjectBegunAgainHoldsNone() {
        CHECKS.about("2: n NODES, no EVENTS, though there were some; 12: 0 without EVENTS");
        for (int n = Numbers.LEAST_NODES; n <= Numbers.MOST_NODES; n++) {
            SightGraph g = Graphs.lateFork();
            g.begin(n);
            countsOfEmpty(g, n);
        }
    }

    private static void countsOfEmpty(SightGraph g, int nodes) {
        CHECKS.due("count(0)", 0, g.count(0));
        CHECKS.due("count(1)", nodes, g.count(1));
        CHECKS.due("count(2)", 0, g.count(2));
        CHECKS.due("count(3)", 0, g.count(3));
    }

    private static SightGraph[] empties() {
        SightGraph again = Graphs.lateFork();
        again.begin(4);
        return new SightGraph[] {new SightGraph(), Graphs.begun(4), again};
    }

    private static void noPairOfEventsIsKnown() {
        CHECKS.about("4, 5, 7, 8, 9: there is no such EVENT");
        for (SightGraph g : empties()) {
            for (PairCall call : PairCall.values()) {
                for (int x : Numbers.outside(0)) {
                    CHECKS.throwsIndex(call.written(x, x), () -> call.ask(g, x, x));
                    CHECKS.throwsIndex(call.written(0, x), () -> call.ask(g, 0, x));
                }
            }
        }
    }

    private static void noSingleEventIsKnown() {
        CHECKS.about("6, 10, 11: there is no such EVENT");
        for (SightGraph g : empties()) {
            for (SingleCall call : SingleCall.values()) {
                for (int x : Numbers.outside(0)) {
                    CHECKS.throwsIndex(call.written(x), () -> call.ask(g, x));
                }
            }
        }
    }

    private static void nodesAreLookedAtAllTheSame() {
        CHECKS.about("6: there is no such NODE (looked at first)");
        for (SightGraph g : empties()) {
            for (int node : Numbers.outside(4)) {
                CHECKS.throwsArgument("forked(0, " + node + ")", () -> g.forked(0, node));
            }
            CHECKS.throwsIndex("forked(0, 3)", () -> g.forked(0, 3));
        }
    }

    private static void noEventCanBeAParent() {
        CHECKS.about("3: self is no EVENT of it, other no EVENT of another one");
        for (SightGraph g : empties()) {
            for (int parent : Numbers.noParents(0)) {
                CHECKS.throwsArgument("event(0, " + parent + ", -1)", () -> g.event(0, parent, -1));
                CHECKS.throwsArgument("event(1, -1, " + parent + ")", () -> g.event(1, -1, parent));
            }
            CHECKS.due("count(0)", 0, g.count(0));
        }
    }

    private static void theFirstEventIsNumberZero() {
        CHECKS.about("3: one more EVENT: its number");
        for (SightGraph g : empties()) {
            CHECKS.due("event(3, -1, -1)", 0, g.event(3, -1, -1));
            CHECKS.due("count(0)", 1, g.count(0));
            CHECKS.due("count(2)", 0, g.count(2));
            CHECKS.due("count(3)", 1, g.count(3));
        }
    }

    private static void theFirstEventIsAloneWithItself() {
        CHECKS.about("ANCESTORS of x: x, and those of its parents");
        for (SightGraph g : empties()) {
            g.event(0, -1, -1);
            CHECKS.isTrue("ancestor(0, 0)", g.ancestor(0, 0));
            CHECKS.isTrue("own(0, 0)", g.own(0, 0));
            CHECKS.isTrue("sees(0, 0)", g.sees(0, 0));
            CHECKS.due("strength(0, 0)", 1, g.strength(0, 0));
            CHECKS.isFalse("strongly(0, 0)", g.strongly(0, 0));
            CHECKS.due("round(0)", 1, g.round(0));
            CHECKS.isTrue("witness(0)", g.witness(0));
            for (int node = 0; node < 4; node++) {
                CHECKS.isFalse("forked(0, " + node + ")", g.forked(0, node));
            }
        }
    }
}
