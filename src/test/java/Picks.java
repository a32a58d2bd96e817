import java.util.Random;

/** Parents for the next event of a graph that is drawn by lot. */
final class Picks {
    private Picks() {
    }

    /** The node's newest event before the given one, or none. */
    static int newest(PlainModel model, int node, int before) {
        for (int e = before - 1; e >= 0; e--) {
            if (model.creator(e) == node) {
                return e;
            }
        }
        return Graphs.NONE;
    }

    /** Mostly one of the others' newest, for word to spread fast enough that rounds go on. */
    static int recentOther(PlainModel model, Random random, int node) {
        for (int e = model.size() - 1; e >= 0; e--) {
            if (model.creator(e) != node && random.nextInt(3) == 0) {
                return e;
            }
        }
        return Graphs.NONE;
    }
}
