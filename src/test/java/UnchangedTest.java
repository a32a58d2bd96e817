import java.util.function.Supplier;

/** A call that throws changes nothing: every answer stays as it was. */
public final class UnchangedTest {
    private static final Checks CHECKS = new Checks("UnchangedTest");

    public static void main(String[] args) {
        manyRefusedCallsLeaveAnObject();
        manyRefusedCallsLeaveAFullObject();
        eachRefusedCallLeavesAnEmptyObject();
        eachRefusedCallLeavesEveryNumberOfNodes();
        eachRefusedCallLeavesADialogue();
        eachRefusedCallLeavesAFork();
        eachRefusedCallLeavesAFullObject();
        eventsGoOnAfterEachRefusedCall();
        CHECKS.end();
    }

    private static void manyRefusedCallsLeaveAnObject() {
        CHECKS.about("a call that throws changes nothing, nor do many");
        wrongCallsOn(new SightGraph(), Answers.all(new SightGraph(), 4), 4);
        wrongCallsOn(Graphs.dialogue(9), Answers.all(Graphs.dialogue(9), 2), 2);
        wrongCallsOn(Graphs.lateFork(), Answers.all(Graphs.lateFork(), 4), 4);
    }

    private static void wrongCallsOn(SightGraph g, String due, int nodes) {
        makeWrongCalls(g, nodes, g.count(0));
        CHECKS.due("all answers after many wrong calls", due, Answers.all(g, nodes));
    }

    private static void makeWrongCalls(SightGraph g, int nodes, int events) {
        CHECKS.throwsArgument("begin(1)", () -> g.begin(1));
        CHECKS.throwsArgument("begin(9)", () -> g.begin(9));
        CHECKS.throwsArgument("event of no node", () -> g.event(nodes, -1, -1));
        CHECKS.throwsArgument("event of no self-parent", () -> g.event(0, events, -1));
        CHECKS.throwsArgument("event of no other-parent", () -> g.event(0, -1, events));
        CHECKS.throwsIndex("ancestor", () -> g.ancestor(events, 0));
        CHECKS.throwsIndex("own", () -> g.own(0, events));
        CHECKS.throwsArgument("forked", () -> g.forked(0, nodes));
        CHECKS.throwsIndex("forked", () -> g.forked(events, 0));
        CHECKS.throwsIndex("sees", () -> g.sees(events, 0));
        CHECKS.throwsIndex("strength", () -> g.strength(0, events));
        CHECKS.throwsIndex("strongly", () -> g.strongly(events, events));
        CHECKS.throwsIndex("round", () -> g.round(events));
        CHECKS.throwsIndex("witness", () -> g.witness(-1));
        CHECKS.throwsArgument("count", () -> g.count(4));
    }

    private static void manyRefusedCallsLeaveAFullObject() {
        CHECKS.about("a call that throws changes nothing, nor do many, of a full object");
        SightGraph g = Graphs.fullChain();
        makeWrongCalls(g, 4, Graphs.MOST_EVENTS);
        CHECKS.throwsIndex("event(1, -1, 119)", () -> g.event(1, -1, 119));
        CHECKS.throwsIndex("event(0, -1, -1)", () -> g.event(0, -1, -1));
        CHECKS.due("answers after many wrong calls", Answers.some(Graphs.fullChain(), 4), Answers.some(g, 4));
    }

    private static void eachRefusedCallLeavesAnEmptyObject() {
        CHECKS.about("a call that throws changes nothing, of an object without EVENTS");
        eachRefusedCallLeaves(SightGraph::new, 4);
    }

    private static void eachRefusedCallLeavesEveryNumberOfNodes() {
        CHECKS.about("a call that throws changes nothing, of n NODES");
        for (int n = Numbers.LEAST_NODES; n <= Numbers.MOST_NODES; n++) {
            int nodes = n;
            eachRefusedCallLeaves(() -> Graphs.begun(nodes), n);
        }
    }

    private static void eachRefusedCallLeavesADialogue() {
        CHECKS.about("a call that throws changes nothing, of ROUNDS");
        eachRefusedCallLeaves(() -> Graphs.dialogue(9), 2);
    }

    private static void eachRefusedCallLeavesAFork() {
        CHECKS.about("a call that throws changes nothing, of a FORK");
        eachRefusedCallLeaves(Graphs::lateFork, 4);
    }

    // Each call on an object of its own, so that none hides another's trace.
    private static void eachRefusedCallLeaves(Supplier<SightGraph> make, int nodes) {
        String due = Answers.all(make.get(), nodes);
        for (Refused refused : Refused.all(nodes, make.get().count(0))) {
            SightGraph g = make.get();
            refused.check(CHECKS, g);
            CHECKS.due("all answers after " + refused.call(), due, Answers.all(g, nodes));
        }
    }

    private static void eachRefusedCallLeavesAFullObject() {
        CHECKS.about("a call that throws changes nothing, of a full object");
        String due = Answers.some(fullDialogue(), 2);
        for (Refused refused : Refused.all(2, Graphs.MOST_EVENTS)) {
            fullObjectIsLeft(refused, due);
        }
        fullObjectIsLeft(Refused.index("event(0, -1, -1)", g -> g.event(0, -1, -1)), due);
        fullObjectIsLeft(Refused.index("event(0, 118, 119)", g -> g.event(0, 118, 119)), due);
        fullObjectIsLeft(Refused.index("event(1, 1, 0)", g -> g.event(1, 1, 0)), due);
    }

    private static SightGraph fullDialogue() {
        return Graphs.dialogue(Graphs.MOST_EVENTS);
    }

    private static void fullObjectIsLeft(Refused refused, String due) {
        SightGraph g = fullDialogue();
        refused.check(CHECKS, g);
        CHECKS.due("answers after " + refused.call(), due, Answers.some(g, 2));
    }

    // What a refused call might leave behind could show in the events that come after it.
    private static void eventsGoOnAfterEachRefusedCall() {
        CHECKS.about("a call that throws changes nothing, of what comes after it");
        String due = Answers.all(Graphs.lateFork(), 4);
        for (Refused refused : Refused.all(4, 0)) {
            SightGraph g = new SightGraph();
            refused.check(CHECKS, g);
            Graphs.addLateFork(g);
            CHECKS.due("all answers of events after " + refused.call(), due, Answers.all(g, 4));
        }
        for (Refused refused : Refused.all(2, 5)) {
            SightGraph g = Graphs.dialogue(5);
            refused.check(CHECKS, g);
            CHECKS.due("event(1, 3, 4) after " + refused.call(), 5, g.event(1, 3, 4));
            CHECKS.due("round(5) after " + refused.call(), 3, g.round(5));
            CHECKS.due("count(2) after " + refused.call(), 0, g.count(2));
        }
    }
}
