/** Promises 7, 8 and 9: sees, strength, strongly. */
public final class SightTest {
    private static final Checks CHECKS = new Checks("SightTest");

    public static void main(String[] args) {
        seesAncestorsWithoutFork();
        seesNothingOfANodeSeenForking();
        mayNotSeeItself();
        strengthCountsNodesOnce();
        strengthIsNoneWithoutSight();
        stronglySeesWhatItDoesNotSee();
        stronglyTakesMoreThanTwoThirds();
        refusesUnknownEvents();
        CHECKS.end();
    }

    private static void seesAncestorsWithoutFork() {
        SightGraph g = Graphs.dialogue(4);
        CHECKS.isTrue("sees(3, 3)", g.sees(3, 3));
        CHECKS.isTrue("sees(3, 0)", g.sees(3, 0));
        CHECKS.isFalse("sees(1, 0)", g.sees(1, 0));
        CHECKS.isFalse("sees(0, 3)", g.sees(0, 3));
    }

    private static void seesNothingOfANodeSeenForking() {
        SightGraph g = Graphs.lateFork();
        CHECKS.isTrue("sees(6, 0)", g.sees(6, 0));
        CHECKS.isFalse("sees(6, 1)", g.sees(6, 1));
        CHECKS.isFalse("sees(8, 0)", g.sees(8, 0));
        CHECKS.isFalse("sees(8, 1)", g.sees(8, 1));
        CHECKS.isTrue("sees(8, 4)", g.sees(8, 4));
        CHECKS.isTrue("sees(8, 8)", g.sees(8, 8));
    }

    private static void mayNotSeeItself() {
        SightGraph g = Graphs.begun(2);
        g.event(0, -1, -1);
        g.event(1, -1, 0);
        g.event(0, -1, 1);
        CHECKS.isFalse("sees(2, 2)", g.sees(2, 2));
        CHECKS.due("strength(2, 2)", 0, g.strength(2, 2));
        CHECKS.isTrue("sees(2, 1)", g.sees(2, 1));
        CHECKS.due("strength(2, 1)", 1, g.strength(2, 1));
    }

    private static void strengthCountsNodesOnce() {
        SightGraph g = Graphs.lateFork();
        CHECKS.due("strength(0, 0)", 1, g.strength(0, 0));
        CHECKS.due("strength(2, 0)", 2, g.strength(2, 0));
        CHECKS.due("strength(5, 0)", 3, g.strength(5, 0));
        CHECKS.due("strength(6, 0)", 4, g.strength(6, 0));
        CHECKS.due("strength(6, 2), three events of one node", 1, g.strength(6, 2));
        CHECKS.due("strength(8, 2)", 2, g.strength(8, 2));
    }

    private static void strengthIsNoneWithoutSight() {
        SightGraph g = Graphs.lateFork();
        CHECKS.due("strength(0, 6), a child", 0, g.strength(0, 6));
        CHECKS.due("strength(6, 1), a stranger", 0, g.strength(6, 1));
        CHECKS.due("strength(8, 1), seen by its creator alone", 0, g.strength(8, 1));
    }

    private static void stronglySeesWhatItDoesNotSee() {
        SightGraph g = Graphs.lateFork();
        CHECKS.isFalse("sees(8, 0)", g.sees(8, 0));
        CHECKS.due("strength(8, 0)", 3, g.strength(8, 0));
        CHECKS.isTrue("strongly(8, 0)", g.strongly(8, 0));
        CHECKS.isFalse("strongly(8, 1)", g.strongly(8, 1));
    }

    // Event 0 goes from node to node, so that event k strongly sees it by k + 1 nodes.
    private static void stronglyTakesMoreThanTwoThirds() {
        int[] least = {0, 0, 2, 3, 3, 4, 5, 5, 6};
        for (int n = 2; n <= 8; n++) {
            SightGraph g = Graphs.begun(n);
            for (int e = 0; e < n; e++) {
                g.event(e, -1, e - 1);
                String pair = "(" + e + ", 0) of " + n + " nodes";
                CHECKS.due("strength" + pair, e + 1, g.strength(e, 0));
                CHECKS.due("strongly" + pair, e + 1 >= least[n], g.strongly(e, 0));
            }
        }
    }

    private static void refusesUnknownEvents() {
        SightGraph g = Graphs.dialogue(3);
        for (int x : new int[] {3, -1, -2, Integer.MIN_VALUE, 120, Integer.MAX_VALUE}) {
            CHECKS.throwsIndex("sees(" + x + ", 0)", () -> g.sees(x, 0));
            CHECKS.throwsIndex("sees(0, " + x + ")", () -> g.sees(0, x));
            CHECKS.throwsIndex("strength(" + x + ", 0)", () -> g.strength(x, 0));
            CHECKS.throwsIndex("strength(0, " + x + ")", () -> g.strength(0, x));
            CHECKS.throwsIndex("strongly(" + x + ", 0)", () -> g.strongly(x, 0));
            CHECKS.throwsIndex("strongly(0, " + x + ")", () -> g.strongly(0, x));
        }
    }
}
