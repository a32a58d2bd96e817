import java.util.Random;

/** All promises on many graphs, against the document's terms taken word by word. */
public final class DefinitionTest {
    private static final Checks CHECKS = new Checks("DefinitionTest");
    private static int mostRounds = 0;
    private static int strongUnseen = 0;

    public static void main(String[] args) {
        for (int seed = 0; seed < 140; seed++) {
            compareOne(new Random(seed), 2 + seed % 7, seed % 5 * 3);
        }
        CHECKS.isTrue("the graphs reach many rounds", mostRounds >= 6);
        CHECKS.isTrue("the graphs strongly see forkers", strongUnseen > 0);
        CHECKS.end();
    }

    private static void compareOne(Random random, int nodes, int forksInHundred) {
        Replayed graph = new Replayed(nodes);
        PlainModel model = new PlainModel(nodes);
        int events = random.nextInt(6) == 0 ? Graphs.MOST_EVENTS : 20 + random.nextInt(40);
        for (int e = 0; e < events; e++) {
            int node = random.nextInt(nodes);
            int self = pickSelf(model, random, node, forksInHundred);
            int other = Picks.recentOther(model, random, node);
            model.event(node, self, other);
            CHECKS.due("event(" + node + ", " + self + ", " + other + ")", e, graph.event(node, self, other));
            AgainstModel.event(CHECKS, graph.forCalls(AgainstModel.callsOfAnEvent(nodes)), model, e);
            AgainstModel.counts(CHECKS, graph.forCalls(AgainstModel.CALLS_OF_COUNTS), model);
        }
        comparePairs(graph, model, random);
        mostRounds = Math.max(mostRounds, graph.forCalls(1).count(3));
    }

    private static int pickSelf(PlainModel model, Random random, int node, int forksInHundred) {
        boolean fork = random.nextInt(100) < forksInHundred;
        int picked = Graphs.NONE;
        for (int e = 0; e < model.size(); e++) {
            if (model.creator(e) == node && !(fork && random.nextInt(3) == 0)) {
                picked = e;
            }
        }
        return fork && random.nextInt(4) == 0 ? Graphs.NONE : picked;
    }

    private static void comparePairs(Replayed graph, PlainModel model, Random random) {
        boolean all = model.size() <= 40;
        for (int x = 0; x < model.size(); x++) {
            for (int y = 0; y < model.size(); y++) {
                if (all || random.nextInt(8) == 0) {
                    comparePair(graph, model, x, y);
                }
            }
        }
    }

    private static void comparePair(Replayed graph, PlainModel model, int x, int y) {
        AgainstModel.pair(CHECKS, graph.forCalls(AgainstModel.CALLS_OF_A_PAIR), model, x, y);
        SightGraph g = graph.forCalls(2);
        strongUnseen += g.strongly(x, y) && !g.sees(x, y) ? 1 : 0;
    }
}
