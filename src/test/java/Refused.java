import java.util.ArrayList;
import java.util.List;
import java.util.function.Consumer;

/** A call that the document refuses, with the exception that is due. */
record Refused(String call, Class<? extends RuntimeException> due, Consumer<SightGraph> run) {

    /**
     * The wrong calls for an object of so many nodes and events: each argument in turn outside
     * its bounds, the others as right as they can be.
     */
    static List<Refused> all(int nodes, int events) {
        List<Refused> found = new ArrayList<>();
        for (int n : Numbers.noNodeCounts()) {
            found.add(argument("begin(" + n + ")", g -> g.begin(n)));
        }
        for (int node : Numbers.outside(nodes)) {
            found.add(argument("event(" + node + ", -1, -1)", g -> g.event(node, -1, -1)));
            found.add(argument("forked(0, " + node + ")", g -> g.forked(0, node)));
        }
        for (int parent : Numbers.noParents(events)) {
            found.add(argument("event(0, " + parent + ", -1)", g -> g.event(0, parent, -1)));
            found.add(argument("event(0, -1, " + parent + ")", g -> g.event(0, -1, parent)));
        }
        for (int x : Numbers.outside(events)) {
            addEventCalls(found, x);
        }
        for (int what : Numbers.outside(4)) {
            found.add(argument("count(" + what + ")", g -> g.count(what)));
        }
        return found;
    }

    private static void addEventCalls(List<Refused> found, int x) {
        for (SingleCall call : SingleCall.values()) {
            found.add(index(call.written(x), g -> call.ask(g, x)));
        }
        for (PairCall call : PairCall.values()) {
            found.add(index(call.written(x, 0), g -> call.ask(g, x, 0)));
            found.add(index(call.written(0, x), g -> call.ask(g, 0, x)));
            found.add(index(call.written(x, x), g -> call.ask(g, x, x)));
        }
    }

    static Refused argument(String call, Consumer<SightGraph> run) {
        return new Refused(call, IllegalArgumentException.class, run);
    }

    static Refused index(String call, Consumer<SightGraph> run) {
        return new Refused(call, IndexOutOfBoundsException.class, run);
    }

    void check(Checks checks, SightGraph g) {
        checks.throwsOne(call, due, () -> run.accept(g));
    }
}
