/** Promise 12: count. */
public final class CountTest {
    private static final Checks CHECKS = new Checks("CountTest");

    public static void main(String[] args) {
        countsEventsAndNodes();
        countsNodesThatForkedUnseen();
        countsAForkingNodeOnce();
        countsForksAmongManyEvents();
        countsTheGreatestRound();
        refusesOtherCounts();
        CHECKS.end();
    }

    private static void countsEventsAndNodes() {
        SightGraph g = Graphs.dialogue(7);
        CHECKS.due("count(0)", 7, g.count(0));
        CHECKS.due("count(1)", 2, g.count(1));
        g.begin(8);
        CHECKS.due("count(0) after begin", 0, g.count(0));
        CHECKS.due("count(1) after begin", 8, g.count(1));
        CHECKS.due("count(0) of a full object", 120, Graphs.fullChain().count(0));
    }

    private static void countsNodesThatForkedUnseen() {
        SightGraph g = Graphs.begun(8);
        for (int node = 0; node < 8; node++) {
            g.event(node, -1, -1);
            CHECKS.due("count(2) before the fork of " + node, node, g.count(2));
            g.event(node, -1, -1);
            CHECKS.due("count(2) after the fork of " + node, node + 1, g.count(2));
        }
        for (int x = 0; x < 16; x++) {
            CHECKS.isFalse("forked(" + x + ", its node)", g.forked(x, x / 2));
        }
    }

    private static void countsAForkingNodeOnce() {
        SightGraph g = new SightGraph();
        g.event(0, -1, -1);
        g.event(0, 0, -1);
        CHECKS.due("a chain", 0, g.count(2));
        g.event(0, 0, -1);
        g.event(0, 0, -1);
        g.event(0, -1, -1);
        CHECKS.due("four branches", 1, g.count(2));
    }

    private static void countsForksAmongManyEvents() {
        for (int last = 62; last < 66; last++) {
            SightGraph g = new SightGraph();
            for (int e = 0; e < last; e++) {
                g.event(0, e - 1, -1);
            }
            CHECKS.due("count(2) of a chain of " + last, 0, g.count(2));
            g.event(0, last - 2, -1);
            CHECKS.due("count(2) with a fork at " + last, 1, g.count(2));
        }
        CHECKS.due("count(2) of a full chain", 0, Graphs.fullChain().count(2));
    }

    private static void countsTheGreatestRound() {
        SightGraph g = Graphs.dialogue(2);
        CHECKS.due("count(3) of roots", 1, g.count(3));
        CHECKS.due("count(3) of a dialogue", 5, Graphs.dialogue(10).count(3));
        g.begin(2);
        CHECKS.due("count(3) without events", 0, g.count(3));
    }

    private static void refusesOtherCounts() {
        SightGraph g = Graphs.dialogue(3);
        for (int what : new int[] {Integer.MIN_VALUE, -2, -1, 4, 5, Integer.MAX_VALUE}) {
            CHECKS.throwsArgument("count(" + what + ")", () -> g.count(what));
        }
    }
}
