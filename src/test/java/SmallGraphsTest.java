import java.util.Arrays;

/** All promises on every graph of few events, against the document's terms taken word by word. */
public final class SmallGraphsTest {
    private static final Checks CHECKS = new Checks("SmallGraphsTest");
    private static int graphs = 0;

    public static void main(String[] args) {
        everyGraph(2, 5);
        everyGraph(3, 4);
        everyGraph(4, 3);
        CHECKS.isTrue("there are many such graphs", graphs > 10000);
        CHECKS.end();
    }

    private static void everyGraph(int nodes, int mostEvents) {
        extend(nodes, new int[mostEvents][], 0);
    }

    /** Compares the graph of the events so far, then goes on with each event that may come next. */
    private static void extend(int nodes, int[][] events, int made) {
        compare(nodes, events, made);
        if (made == events.length) {
            return;
        }
        for (int node = 0; node < nodes; node++) {
            for (int self = -1; self < made; self++) {
                for (int other = -1; other < made; other++) {
                    if (mayBeSelf(events, node, self) && mayBeOther(events, node, other)) {
                        events[made] = new int[] {node, self, other};
                        extend(nodes, events, made + 1);
                    }
                }
            }
        }
    }

    private static boolean mayBeSelf(int[][] events, int node, int self) {
        return self < 0 || events[self][0] == node;
    }

    private static boolean mayBeOther(int[][] events, int node, int other) {
        return other < 0 || events[other][0] != node;
    }

    private static void compare(int nodes, int[][] events, int made) {
        graphs++;
        CHECKS.about(nodes + " nodes, events " + Arrays.deepToString(Arrays.copyOf(events, made)));
        SightGraph g = Graphs.begun(nodes);
        PlainModel model = new PlainModel(nodes);
        for (int e = 0; e < made; e++) {
            model.event(events[e][0], events[e][1], events[e][2]);
            CHECKS.due("event " + e, e, g.event(events[e][0], events[e][1], events[e][2]));
        }
        AgainstModel.counts(CHECKS, g, model);
        for (int x = 0; x < made; x++) {
            AgainstModel.event(CHECKS, g, model, x);
            for (int y = 0; y < made; y++) {
                AgainstModel.pair(CHECKS, g, model, x, y);
            }
        }
    }
}
