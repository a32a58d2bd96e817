import java.util.ArrayList;
import java.util.List;

/**
 * A graph that can be asked more than an object is made for: whenever the calls of one object are
 * used up, another is made with the same events.
 */
final class Replayed {
    private final int nodes;
    private final List<int[]> events = new ArrayList<>();
    private SightGraph g;
    private int left = 0;

    Replayed(int nodes) {
        this.nodes = nodes;
        renew();
    }

    /** The object, good for so many calls at least. */
    SightGraph forCalls(int calls) {
        if (left < calls) {
            renew();
        }
        left -= calls;
        return g;
    }

    int event(int node, int self, int other) {
        int made = forCalls(1).event(node, self, other);
        events.add(new int[] {node, self, other});
        return made;
    }

    private void renew() {
        g = new SightGraph();
        // Something for begin to forget, which would show in the answers if it did not.
        Graphs.addLateFork(g);
        int calls = g.count(0) + 1;
        g.begin(nodes);
        for (int[] event : events) {
            g.event(event[0], event[1], event[2]);
        }
        left = Numbers.MOST_CALLS - calls - 1 - events.size();
    }
}
