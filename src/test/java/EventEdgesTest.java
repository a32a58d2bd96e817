/** "There is no such EVENT (here and below)": the edges of the numbers of events, promises 4 to 11. */
public final class EventEdgesTest {
    private static final Checks CHECKS = new Checks("EventEdgesTest");
    // Beside the least and the greatest, where the bits of one word end and the next begin.
    private static final int[] SIZES = {1, 2, 31, 32, 33, 63, 64, 65, 119, 120};

    public static void main(String[] args) {
        ancestorTakesEventsAlone();
        ownTakesEventsAlone();
        forkedTakesEventsAlone();
        seesTakesEventsAlone();
        strengthTakesEventsAlone();
        stronglyTakesEventsAlone();
        roundTakesEventsAlone();
        witnessTakesEventsAlone();
        anEventIsKnownOnlyOnceItIsMade();
        CHECKS.end();
    }

    private static void ancestorTakesEventsAlone() {
        CHECKS.about("4: there is no such EVENT");
        for (int size : SIZES) {
            takesInChain(PairCall.ANCESTOR, size, true, false);
            refusesOutside(PairCall.ANCESTOR, size);
        }
    }

    private static void ownTakesEventsAlone() {
        CHECKS.about("5: there is no such EVENT");
        for (int size : SIZES) {
            takesInChain(PairCall.OWN, size, true, false);
            refusesOutside(PairCall.OWN, size);
        }
    }

    private static void forkedTakesEventsAlone() {
        CHECKS.about("6: there is no such EVENT");
        for (int size : SIZES) {
            takesInChain(SingleCall.FORKED, size, false, false);
            refusesOutside(SingleCall.FORKED, size);
        }
    }

    private static void seesTakesEventsAlone() {
        CHECKS.about("7: there is no such EVENT");
        for (int size : SIZES) {
            takesInChain(PairCall.SEES, size, true, false);
            refusesOutside(PairCall.SEES, size);
        }
    }

    private static void strengthTakesEventsAlone() {
        CHECKS.about("8: there is no such EVENT");
        for (int size : SIZES) {
            takesInChain(PairCall.STRENGTH, size, 1, 0);
            refusesOutside(PairCall.STRENGTH, size);
        }
    }

    private static void stronglyTakesEventsAlone() {
        CHECKS.about("9: there is no such EVENT");
        for (int size : SIZES) {
            takesInChain(PairCall.STRONGLY, size, false, false);
            refusesOutside(PairCall.STRONGLY, size);
        }
    }

    private static void roundTakesEventsAlone() {
        CHECKS.about("10: there is no such EVENT");
        for (int size : SIZES) {
            takesInChain(SingleCall.ROUND, size, 1, 1);
            refusesOutside(SingleCall.ROUND, size);
        }
    }

    private static void witnessTakesEventsAlone() {
        CHECKS.about("11: there is no such EVENT");
        for (int size : SIZES) {
            takesInChain(SingleCall.WITNESS, size, true, false);
            refusesOutside(SingleCall.WITNESS, size);
        }
    }

    // In a chain of one node x has to do with itself and with those before it.
    private static void takesInChain(PairCall call, int size, Object before, Object after) {
        SightGraph g = Graphs.chain(size);
        int last = size - 1;
        CHECKS.due(call.written(0, 0), before, call.ask(g, 0, 0));
        CHECKS.due(call.written(last, 0), before, call.ask(g, last, 0));
        CHECKS.due(call.written(last, last), before, call.ask(g, last, last));
        CHECKS.due(call.written(0, last), size == 1 ? before : after, call.ask(g, 0, last));
    }

    private static void takesInChain(SingleCall call, int size, Object first, Object later) {
        SightGraph g = Graphs.chain(size);
        int last = size - 1;
        CHECKS.due(call.written(0), first, call.ask(g, 0));
        CHECKS.due(call.written(last), size == 1 ? first : later, call.ask(g, last));
    }

    private static void refusesOutside(PairCall call, int size) {
        SightGraph g = Graphs.chain(size);
        int last = size - 1;
        for (int x : Numbers.outside(size)) {
            String of = " of " + size + " events";
            CHECKS.throwsIndex(call.written(x, 0) + of, () -> call.ask(g, x, 0));
            CHECKS.throwsIndex(call.written(x, last) + of, () -> call.ask(g, x, last));
            CHECKS.throwsIndex(call.written(0, x) + of, () -> call.ask(g, 0, x));
            CHECKS.throwsIndex(call.written(last, x) + of, () -> call.ask(g, last, x));
            CHECKS.throwsIndex(call.written(x, x) + of, () -> call.ask(g, x, x));
        }
    }

    private static void refusesOutside(SingleCall call, int size) {
        SightGraph g = Graphs.chain(size);
        for (int x : Numbers.outside(size)) {
            CHECKS.throwsIndex(call.written(x) + " of " + size + " events", () -> call.ask(g, x));
        }
    }

    private static void anEventIsKnownOnlyOnceItIsMade() {
        CHECKS.about("EVENTS, numbered as they are made, up to 120");
        SightGraph g = new SightGraph();
        for (int e = 0; e < Graphs.MOST_EVENTS; e++) {
            int next = e;
            CHECKS.throwsIndex("round(" + e + ") too early", () -> g.round(next));
            CHECKS.due("event " + e, e, g.event(0, e - 1, -1));
            CHECKS.due("round(" + e + ")", 1, g.round(e));
        }
    }
}
