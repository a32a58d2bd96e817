import java.util.Random;

/**
 * The document's first line: who sees it "so strongly that nobody else can see the contrary". Once
 * one side of a FORK is STRONGLY SEEN, nobody STRONGLY SEES the other, while at most a third of the
 * NODES fork: two times more than two thirds of them have one in common that has not forked, and of
 * its two events between, the later one knows both sides and so SEES neither.
 */
public final class ContraryTest {
    private static final Checks CHECKS = new Checks("ContraryTest");
    private static final int EVENTS = 40;
    private static int forksOneSideOfWhichIsStronglySeen = 0;

    public static void main(String[] args) {
        CHECKS.about("so strongly that nobody else can see the contrary");
        everySplitOfTheNodesLeavesOneSideAtMost();
        theOtherSideNeverCatchesUp();
        noneOfFewForkersIsSeenBothWays();
        oneEventNeverSeesBothWays();
        CHECKS.isTrue("sides of forks are strongly seen", forksOneSideOfWhichIsStronglySeen > 100);
        CHECKS.end();
    }

    // Node 0 forks into 0 and 1; nodes 1 to k hand on the one, the others the other.
    private static void everySplitOfTheNodesLeavesOneSideAtMost() {
        for (int n = 3; n <= Numbers.MOST_NODES; n++) {
            for (int k = 0; k < n; k++) {
                SightGraph g = Graphs.begun(n);
                g.event(0, -1, -1);
                g.event(0, -1, -1);
                int one = handOn(g, 0, 1, k);
                int other = handOn(g, 1, k + 1, n - 1);
                String split = k + 1 + " of " + n + " nodes";
                boolean oneSide = k + 1 >= Numbers.leastMany(n);
                boolean otherSide = n - k >= Numbers.leastMany(n);
                CHECKS.due("one side by " + split, oneSide, g.strongly(one, 0));
                CHECKS.due("the other side, one by " + split, otherSide, g.strongly(other, 1));
                CHECKS.isFalse("both sides, one by " + split, g.strongly(one, 0) && g.strongly(other, 1));
            }
        }
    }

    private static int handOn(SightGraph g, int first, int from, int to) {
        int last = first;
        for (int node = from; node <= to; node++) {
            last = g.event(node, -1, last);
        }
        return last;
    }

    // Nodes 1 and 2 know 0 (events 2 and 3), node 3 knows 1 (event 4); then each in turn hears
    // from the one before it.
    private static void theOtherSideNeverCatchesUp() {
        SightGraph g = new SightGraph();
        g.event(0, -1, -1);
        g.event(0, -1, -1);
        g.event(1, -1, 0);
        g.event(2, -1, 2);
        g.event(3, -1, 1);
        CHECKS.isTrue("strongly(3, 0)", g.strongly(3, 0));
        CHECKS.due("strength(4, 1)", 2, g.strength(4, 1));
        for (int x = 5; x < EVENTS; x++) {
            CHECKS.due("event " + x, x, g.event(1 + (x - 5) % 3, x - 3, x - 1));
            CHECKS.isFalse("strongly(" + x + ", 1)", g.strongly(x, 1));
        }
    }

    private static void noneOfFewForkersIsSeenBothWays() {
        for (int seed = 0; seed < 60; seed++) {
            int nodes = 3 + seed % 6;
            Replayed graph = new Replayed(nodes);
            PlainModel model = new PlainModel(nodes);
            fill(graph, model, new Random(seed), nodes / 3);
            boolean[] seen = new boolean[EVENTS];
            for (int x = 0; x < EVENTS; x++) {
                for (int y = 0; y < EVENTS; y++) {
                    seen[y] |= graph.forCalls(1).strongly(x, y);
                }
            }
            notBothSidesOfAFork("seed " + seed + ": all together", model, seen);
        }
    }

    // However many nodes fork: what one event sees between cannot have forked before its eyes.
    private static void oneEventNeverSeesBothWays() {
        for (int seed = 100; seed < 130; seed++) {
            int nodes = 2 + seed % 7;
            Replayed graph = new Replayed(nodes);
            PlainModel model = new PlainModel(nodes);
            fill(graph, model, new Random(seed), nodes);
            for (int x = 0; x < EVENTS; x++) {
                boolean[] seen = new boolean[EVENTS];
                for (int y = 0; y < EVENTS; y++) {
                    seen[y] = graph.forCalls(1).strongly(x, y);
                }
                notBothSidesOfAFork("seed " + seed + ": event " + x, model, seen);
            }
        }
    }

    private static void notBothSidesOfAFork(String who, PlainModel model, boolean[] seen) {
        for (int y = 0; y < EVENTS; y++) {
            for (int z = 0; z < y; z++) {
                if (model.creator(y) == model.creator(z) && !model.own(y, z)) {
                    CHECKS.isFalse(who + " strongly sees " + z + " and " + y, seen[y] && seen[z]);
                    forksOneSideOfWhichIsStronglySeen += seen[y] || seen[z] ? 1 : 0;
                }
            }
        }
    }

    /** Events of all nodes, of which the first so many fork now and then. */
    private static void fill(Replayed graph, PlainModel model, Random random, int forkers) {
        for (int e = 0; e < EVENTS; e++) {
            int node = random.nextInt(model.nodes());
            boolean fork = node < forkers && random.nextInt(3) == 0;
            int self = Picks.newest(model, node, fork ? random.nextInt(e + 1) : e);
            int other = Picks.recentOther(model, random, node);
            model.event(node, self, other);
            graph.event(node, self, other);
        }
    }
}
