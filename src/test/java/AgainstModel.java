/** Holds the answers of an object against those of the document's terms taken word by word. */
final class AgainstModel {
    static final int CALLS_OF_COUNTS = 4;
    static final int CALLS_OF_A_PAIR = 5;

    private AgainstModel() {
    }

    static int callsOfAnEvent(int nodes) {
        return 2 + nodes;
    }

    static void counts(Checks checks, SightGraph g, PlainModel model) {
        checks.due("count(0)", model.size(), g.count(0));
        checks.due("count(1)", model.nodes(), g.count(1));
        checks.due("count(2)", model.nodesThatForked(), g.count(2));
        checks.due("count(3)", model.greatestRound(), g.count(3));
    }

    static void event(Checks checks, SightGraph g, PlainModel model, int x) {
        checks.due("round(" + x + ")", model.round(x), g.round(x));
        checks.due("witness(" + x + ")", model.witness(x), g.witness(x));
        for (int node = 0; node < model.nodes(); node++) {
            checks.due("forked(" + x + ", " + node + ")", model.forked(x, node), g.forked(x, node));
        }
    }

    static void pair(Checks checks, SightGraph g, PlainModel model, int x, int y) {
        String pair = "(" + x + ", " + y + ")";
        checks.due("ancestor" + pair, model.ancestor(x, y), g.ancestor(x, y));
        checks.due("own" + pair, model.own(x, y), g.own(x, y));
        checks.due("sees" + pair, model.sees(x, y), g.sees(x, y));
        checks.due("strength" + pair, model.strength(x, y), g.strength(x, y));
        checks.due("strongly" + pair, model.strongly(x, y), g.strongly(x, y));
    }
}
