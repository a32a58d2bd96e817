/** Promise 6: forked. */
public final class ForkTest {
    private static final Checks CHECKS = new Checks("ForkTest");

    public static void main(String[] args) {
        twoRootsAreAFork();
        twoChildrenOfOneSelfParentAreAFork();
        aBranchAndAnEventBeforeItAreNone();
        aNodeMaySeeItsOwnFork();
        branchesApartAreSeenTogetherOnly();
        lateEventsForkToo();
        theFirstEventAndALateOneAreAFork();
        refusesUnknownNodesAndEvents();
        looksAtTheNodeFirst();
        CHECKS.end();
    }

    private static void twoRootsAreAFork() {
        SightGraph g = Graphs.lateFork();
        CHECKS.isFalse("one branch", g.forked(6, 0));
        CHECKS.isTrue("both branches", g.forked(7, 0));
        CHECKS.isTrue("a child of who saw both", g.forked(8, 0));
        CHECKS.isFalse("the branch itself", g.forked(1, 0));
        for (int node = 1; node < 4; node++) {
            CHECKS.isFalse("node " + node + ", which has not forked", g.forked(8, node));
        }
    }

    private static void twoChildrenOfOneSelfParentAreAFork() {
        SightGraph g = Graphs.begun(3);
        g.event(0, -1, -1);
        g.event(0, 0, -1);
        g.event(0, 0, -1);
        g.event(1, -1, 1);
        g.event(1, 3, 2);
        CHECKS.isFalse("forked(1, 0)", g.forked(1, 0));
        CHECKS.isFalse("forked(2, 0)", g.forked(2, 0));
        CHECKS.isFalse("forked(3, 0)", g.forked(3, 0));
        CHECKS.isTrue("forked(4, 0)", g.forked(4, 0));
    }

    private static void aBranchAndAnEventBeforeItAreNone() {
        SightGraph g = Graphs.begun(2);
        g.event(0, -1, -1);
        g.event(0, 0, -1);
        g.event(0, 0, -1);
        g.event(1, -1, 0);
        g.event(1, 3, 2);
        CHECKS.isFalse("0 and 2 alone", g.forked(4, 0));
        CHECKS.due("though there is a fork", 1, g.count(2));
    }

    private static void aNodeMaySeeItsOwnFork() {
        SightGraph g = Graphs.begun(2);
        g.event(0, -1, -1);
        g.event(1, -1, 0);
        g.event(0, -1, 1);
        CHECKS.isTrue("forked(2, 0)", g.forked(2, 0));
        CHECKS.isFalse("forked(2, 1)", g.forked(2, 1));
    }

    private static void branchesApartAreSeenTogetherOnly() {
        SightGraph g = new SightGraph();
        g.event(0, -1, -1);
        g.event(0, -1, -1);
        g.event(1, -1, 0);
        g.event(2, -1, 1);
        g.event(3, -1, 2);
        g.event(3, 4, 3);
        CHECKS.isFalse("forked(4, 0)", g.forked(4, 0));
        CHECKS.isTrue("forked(5, 0)", g.forked(5, 0));
    }

    private static void lateEventsForkToo() {
        SightGraph g = Graphs.begun(8);
        for (int e = 0; e < 117; e++) {
            g.event(7, e - 1, -1);
        }
        g.event(7, 62, -1);
        g.event(6, -1, 116);
        g.event(6, 118, 117);
        CHECKS.isFalse("forked(117, 7)", g.forked(117, 7));
        CHECKS.isFalse("forked(118, 7)", g.forked(118, 7));
        CHECKS.isTrue("forked(119, 7)", g.forked(119, 7));
        CHECKS.isFalse("forked(119, 6)", g.forked(119, 6));
    }

    // Node 0 has these two events alone; the node that knows both tells them by its last event.
    private static void theFirstEventAndALateOneAreAFork() {
        for (int late : new int[] {3, 31, 32, 63, 64, 65, 117, 118}) {
            SightGraph g = Graphs.begun(2);
            g.event(0, -1, -1);
            g.event(1, -1, 0);
            for (int e = 2; e < late; e++) {
                g.event(1, e - 1, -1);
            }
            g.event(0, -1, -1);
            g.event(1, late - 1, late);
            CHECKS.isFalse("forked(" + (late - 1) + ", 0)", g.forked(late - 1, 0));
            CHECKS.isTrue("forked(" + (late + 1) + ", 0)", g.forked(late + 1, 0));
            CHECKS.isFalse("sees(" + (late + 1) + ", 0)", g.sees(late + 1, 0));
        }
    }

    private static void refusesUnknownNodesAndEvents() {
        SightGraph g = Graphs.dialogue(3);
        CHECKS.throwsArgument("forked(0, 2)", () -> g.forked(0, 2));
        CHECKS.throwsIndex("forked(3, 0)", () -> g.forked(3, 0));
        for (int i : Graphs.NO_INDEX) {
            CHECKS.throwsArgument("forked(0, " + i + ")", () -> g.forked(0, i));
            CHECKS.throwsIndex("forked(" + i + ", 0)", () -> g.forked(i, 0));
        }
    }

    private static void looksAtTheNodeFirst() {
        SightGraph g = Graphs.dialogue(3);
        CHECKS.throwsArgument("forked(3, 2)", () -> g.forked(3, 2));
        CHECKS.throwsArgument("forked(-1, -1)", () -> g.forked(-1, -1));
    }
}
