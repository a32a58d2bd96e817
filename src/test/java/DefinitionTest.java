import java.util.Random;

/** All promises on many graphs, against the document's terms taken word by word. */
public final class DefinitionTest {
    private static final Checks CHECKS = new Checks("DefinitionTest");
    private static int mostRounds = 0;
    private static int strongUnseen = 0;

    public static void main(String[] args) {
        for (int seed = 0; seed < 140; seed++) {
            compareOne(new Random(seed), 2 + seed % 7, seed % 5 * 3);
        }
        CHECKS.isTrue("the graphs reach many rounds", mostRounds >= 6);
        CHECKS.isTrue("the graphs strongly see forkers", strongUnseen > 0);
        CHECKS.end();
    }

    private static void compareOne(Random random, int nodes, int forksInHundred) {
        Replayed graph = new Replayed(nodes);
        PlainModel model = new PlainModel(nodes);
        int events = random.nextInt(6) == 0 ? Graphs.MOST_EVENTS : 20 + random.nextInt(40);
        for (int e = 0; e < events; e++) {
            int node = random.nextInt(nodes);
            int self = pickSelf(model, random, node, forksInHundred);
            int other = pickOther(model, random, node);
            model.event(node, self, other);
            CHECKS.due("event(" + node + ", " + self + ", " + other + ")", e, graph.event(node, self, other));
            compareEvent(graph.forCalls(2 + nodes + 4), model, nodes, e);
        }
        comparePairs(graph, model, random);
        mostRounds = Math.max(mostRounds, graph.forCalls(1).count(3));
    }

    private static int pickSelf(PlainModel model, Random random, int node, int forksInHundred) {
        boolean fork = random.nextInt(100) < forksInHundred;
        int picked = Graphs.NONE;
        for (int e = 0; e < model.size(); e++) {
            if (model.creator(e) == node && !(fork && random.nextInt(3) == 0)) {
                picked = e;
            }
        }
        return fork && random.nextInt(4) == 0 ? Graphs.NONE : picked;
    }

    // Mostly one of the newest events, for word to spread fast enough that rounds go on.
    private static int pickOther(PlainModel model, Random random, int node) {
        for (int e = model.size() - 1; e >= 0; e--) {
            if (model.creator(e) != node && random.nextInt(3) == 0) {
                return e;
            }
        }
        return Graphs.NONE;
    }

    private static void compareEvent(SightGraph g, PlainModel model, int nodes, int x) {
        CHECKS.due("round(" + x + ")", model.round(x), g.round(x));
        CHECKS.due("witness(" + x + ")", model.witness(x), g.witness(x));
        for (int node = 0; node < nodes; node++) {
            CHECKS.due("forked(" + x + ", " + node + ")", model.forked(x, node), g.forked(x, node));
        }
        CHECKS.due("count(0)", model.size(), g.count(0));
        CHECKS.due("count(1)", nodes, g.count(1));
        CHECKS.due("count(2)", model.nodesThatForked(), g.count(2));
        CHECKS.due("count(3)", model.greatestRound(), g.count(3));
    }

    private static void comparePairs(Replayed graph, PlainModel model, Random random) {
        boolean all = model.size() <= 40;
        for (int x = 0; x < model.size(); x++) {
            for (int y = 0; y < model.size(); y++) {
                if (all || random.nextInt(8) == 0) {
                    comparePair(graph.forCalls(7), model, x, y);
                }
            }
        }
    }

    private static void comparePair(SightGraph g, PlainModel model, int x, int y) {
        String pair = "(" + x + ", " + y + ")";
        CHECKS.due("ancestor" + pair, model.ancestor(x, y), g.ancestor(x, y));
        CHECKS.due("own" + pair, model.own(x, y), g.own(x, y));
        CHECKS.due("sees" + pair, model.sees(x, y), g.sees(x, y));
        CHECKS.due("strength" + pair, model.strength(x, y), g.strength(x, y));
        CHECKS.due("strongly" + pair, model.strongly(x, y), g.strongly(x, y));
        strongUnseen += g.strongly(x, y) && !g.sees(x, y) ? 1 : 0;
    }
}
