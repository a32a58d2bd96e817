/** What an object answers to every question about its events, as one text. */
final class Answers {
    private Answers() {
    }

    static String all(SightGraph g, int nodes) {
        StringBuilder all = new StringBuilder();
        addCounts(all, g);
        return all.append(ofFirst(g, nodes, g.count(0))).toString();
    }

    /** Those about the first so many events alone. */
    static String ofFirst(SightGraph g, int nodes, int events) {
        StringBuilder all = new StringBuilder();
        for (int x = 0; x < events; x++) {
            all.append('\n').append(x).append(": ");
            addEvent(all, g, nodes, x);
            for (int y = 0; y < events; y++) {
                all.append(' ');
                addPair(all, g, x, y);
            }
        }
        return all.toString();
    }

    /** A part of them, for objects so large that all would be more calls than an object is made for. */
    static String some(SightGraph g, int nodes) {
        StringBuilder some = new StringBuilder();
        addCounts(some, g);
        int events = g.count(0);
        for (int x = 0; x < events; x += 7) {
            some.append('\n').append(x).append(": ");
            addEvent(some, g, nodes, x);
            addPair(some, g, x, x / 2);
            addPair(some, g, events - 1, x);
        }
        return some.toString();
    }

    private static void addCounts(StringBuilder all, SightGraph g) {
        for (int what = 0; what < 4; what++) {
            all.append(g.count(what)).append(' ');
        }
    }

    private static void addEvent(StringBuilder all, SightGraph g, int nodes, int x) {
        all.append(g.round(x)).append(g.witness(x) ? 'w' : '-');
        for (int node = 0; node < nodes; node++) {
            all.append(g.forked(x, node) ? 'f' : '-');
        }
    }

    private static void addPair(StringBuilder all, SightGraph g, int x, int y) {
        all.append(g.ancestor(x, y) ? 'a' : '-').append(g.own(x, y) ? 'o' : '-');
        all.append(g.sees(x, y) ? 's' : '-').append(g.strength(x, y));
        all.append(g.strongly(x, y) ? 'S' : '-');
    }
}
