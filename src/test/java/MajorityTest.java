/** "More than 2n / 3 NODES": the edge of it for every n, in STRONGLY SEES and in ROUND (promises 9, 10). */
public final class MajorityTest {
    private static final Checks CHECKS = new Checks("MajorityTest");

    public static void main(String[] args) {
        stronglyTakesTheLeastThatIsMore();
        stronglyRefusesOneNodeLess();
        exactlyTwoThirdsAreNotMore();
        strengthReachesAllNodes();
        roundTakesTheLeastThatIsMore();
        roundRefusesOneNodeLess();
        CHECKS.end();
    }

    /** Event 0 is handed from node to node: event k knows it by k + 1 nodes. */
    private static SightGraph handedOn(int nodes, int hands) {
        SightGraph g = Graphs.begun(nodes);
        for (int e = 0; e < hands; e++) {
            g.event(e, -1, e - 1);
        }
        return g;
    }

    private static void stronglyTakesTheLeastThatIsMore() {
        CHECKS.about("9: more than 2n / 3 NODES; the least number that is");
        for (int n = Numbers.LEAST_NODES; n <= Numbers.MOST_NODES; n++) {
            int many = Numbers.leastMany(n);
            SightGraph g = handedOn(n, many);
            CHECKS.due("strength of " + n, many, g.strength(many - 1, 0));
            CHECKS.isTrue("strongly by " + many + " of " + n, g.strongly(many - 1, 0));
        }
    }

    private static void stronglyRefusesOneNodeLess() {
        CHECKS.about("9: more than 2n / 3 NODES; the greatest number that is not");
        for (int n = Numbers.LEAST_NODES; n <= Numbers.MOST_NODES; n++) {
            int few = Numbers.leastMany(n) - 1;
            SightGraph g = handedOn(n, few);
            CHECKS.due("strength of " + n, few, g.strength(few - 1, 0));
            CHECKS.isFalse("strongly by " + few + " of " + n, g.strongly(few - 1, 0));
        }
    }

    private static void exactlyTwoThirdsAreNotMore() {
        CHECKS.about("9: more than 2n / 3 NODES; not as many");
        CHECKS.isFalse("2 of 3", handedOn(3, 2).strongly(1, 0));
        CHECKS.isTrue("3 of 3", handedOn(3, 3).strongly(2, 0));
        CHECKS.isFalse("4 of 6", handedOn(6, 4).strongly(3, 0));
        CHECKS.isTrue("5 of 6", handedOn(6, 5).strongly(4, 0));
    }

    private static void strengthReachesAllNodes() {
        CHECKS.about("8: how many NODES have such a z; all of them at most");
        for (int n = Numbers.LEAST_NODES; n <= Numbers.MOST_NODES; n++) {
            SightGraph g = handedOn(n, n);
            CHECKS.due("strength of " + n, n, g.strength(n - 1, 0));
            g.event(0, 0, n - 1);
            CHECKS.due("strength of " + n + " once round", n, g.strength(n, 0));
            CHECKS.due("strength of " + n + " the other way", 0, g.strength(0, n));
        }
    }

    private static void roundTakesTheLeastThatIsMore() {
        CHECKS.about("10: r + 1 if more than 2n / 3 NODES have a WITNESS; the least number that is");
        for (int n = Numbers.LEAST_NODES; n <= Numbers.MOST_NODES; n++) {
            int many = Numbers.leastMany(n);
            SightGraph g = Graphs.begun(n);
            int last = passRound(g, gather(g, many), many, many);
            CHECKS.due("round(" + last + ") of " + n, 2, g.round(last));
            CHECKS.isTrue("witness(" + last + ") of " + n, g.witness(last));
            CHECKS.due("round(" + (last - 1) + ") of " + n, 1, g.round(last - 1));
            CHECKS.isFalse("witness(" + (last - 1) + ") of " + n, g.witness(last - 1));
            CHECKS.due("witnesses strongly seen, of " + n, many, witnessesFor(g, last));
        }
    }

    // The last of the nodes in question has no root: it comes in with what it is told, and its
    // first event is the missing witness only when word of it has gone round as well.
    private static void roundRefusesOneNodeLess() {
        CHECKS.about("10: r + 1 if more than 2n / 3 NODES have a WITNESS; the greatest number that is not");
        for (int n = Numbers.LEAST_NODES; n <= Numbers.MOST_NODES; n++) {
            int many = Numbers.leastMany(n);
            SightGraph g = Graphs.begun(n);
            int last = passRound(g, gather(g, many - 1), many - 1, many);
            CHECKS.due("witnesses strongly seen, of " + n, many - 1, witnessesFor(g, last));
            CHECKS.due("round(" + last + ") of " + n, 1, g.round(last));
            // Their events from the round before stand at last - many + 1 and after.
            for (int node = 0; node < many - 1; node++) {
                int made = g.event(node, last - many + 1 + node, last + node);
                CHECKS.due("round(" + made + ") of " + n, node < many - 2 ? 1 : 2, g.round(made));
            }
        }
    }

    /** The first so many nodes have a root each, and node 0 gathers them: its last event. */
    private static int gather(SightGraph g, int roots) {
        for (int node = 0; node < roots; node++) {
            g.event(node, -1, -1);
        }
        int last = 0;
        for (int node = 1; node < roots; node++) {
            last = g.event(0, last, node);
        }
        return last;
    }

    /** What node 0 gathered goes from node to node, up to so many: the last one's event. */
    private static int passRound(SightGraph g, int gathered, int roots, int nodes) {
        int last = gathered;
        for (int node = 1; node < nodes; node++) {
            last = g.event(node, node < roots ? node : -1, last);
        }
        return last;
    }

    private static int witnessesFor(SightGraph g, int x) {
        int found = 0;
        for (int w = 0; w < x; w++) {
            if (g.round(w) == 1 && g.witness(w) && g.strongly(x, w)) {
                found++;
            }
        }
        return found;
    }
}
