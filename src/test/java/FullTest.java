/** An object that is full: 120 events, and what a refused one leaves of it. */
public final class FullTest {
    private static final Checks CHECKS = new Checks("FullTest");
    private static final int LAST = Graphs.MOST_EVENTS - 1;

    public static void main(String[] args) {
        theLastEventIsTaken();
        oneMoreIsRefused();
        oneMoreIsRefusedForEveryNumberOfNodes();
        refusalsDoNotAddUp();
        aRefusedEventDoesNotFork();
        aRefusedEventOpensNoRound();
        aRefusedEventIsNoEvent();
        theLastEventIsAskedAboutAsAnyOther();
        refusedCallsDoNotFillAnObject();
        beginMakesRoomAgain();
        aRefusedBeginMakesNoRoom();
        CHECKS.end();
    }

    private static void theLastEventIsTaken() {
        CHECKS.about("3: there are 120; with 119 there is room");
        SightGraph g = Graphs.chain(LAST);
        CHECKS.due("count(0)", 119, g.count(0));
        CHECKS.due("event(0, 118, -1)", 119, g.event(0, LAST - 1, -1));
        CHECKS.due("count(0)", 120, g.count(0));
    }

    private static void oneMoreIsRefused() {
        CHECKS.about("3: IndexOutOfBoundsException: there are 120");
        SightGraph g = Graphs.fullChain();
        CHECKS.throwsIndex("event(0, -1, -1)", () -> g.event(0, -1, -1));
        CHECKS.throwsIndex("event(0, 119, -1)", () -> g.event(0, LAST, -1));
        CHECKS.throwsIndex("event(3, -1, 119)", () -> g.event(3, -1, LAST));
        CHECKS.throwsIndex("event(3, -1, 0)", () -> g.event(3, -1, 0));
        CHECKS.due("count(0)", 120, g.count(0));
    }

    private static void oneMoreIsRefusedForEveryNumberOfNodes() {
        CHECKS.about("3: there are 120, of however many NODES");
        for (int n = Numbers.LEAST_NODES; n <= Numbers.MOST_NODES; n++) {
            SightGraph g = Graphs.begun(n);
            for (int e = 0; e < Graphs.MOST_EVENTS; e++) {
                CHECKS.due("event " + e + " of " + n + " nodes", e, g.event(e % n, -1, -1));
            }
            int lastNode = n - 1;
            CHECKS.throwsIndex("one more of " + n + " nodes", () -> g.event(lastNode, -1, -1));
            CHECKS.due("count(0) of " + n + " nodes", 120, g.count(0));
        }
    }

    private static void refusalsDoNotAddUp() {
        CHECKS.about("a call that throws changes nothing, however often");
        SightGraph g = Graphs.fullChain();
        for (int time = 0; time < 300; time++) {
            CHECKS.throwsIndex("refusal " + time, () -> g.event(0, LAST, -1));
        }
        CHECKS.due("count(0)", 120, g.count(0));
        CHECKS.isTrue("own(119, 0)", g.own(LAST, 0));
    }

    private static void aRefusedEventDoesNotFork() {
        CHECKS.about("a call that throws changes nothing; 12: NODES that have a FORK");
        SightGraph g = Graphs.fullChain();
        CHECKS.throwsIndex("event(0, 0, -1), a fork", () -> g.event(0, 0, -1));
        CHECKS.throwsIndex("event(0, -1, -1), a fork", () -> g.event(0, -1, -1));
        CHECKS.due("count(2)", 0, g.count(2));
        CHECKS.isFalse("forked(119, 0)", g.forked(LAST, 0));
        CHECKS.isTrue("sees(119, 0)", g.sees(LAST, 0));
    }

    // As a dialogue, but node 0 says two things first: then the event after the last one, of
    // node 1, would open a round.
    private static void aRefusedEventOpensNoRound() {
        CHECKS.about("a call that throws changes nothing; 12: the greatest ROUND");
        SightGraph g = Graphs.begun(2);
        g.event(0, -1, -1);
        g.event(0, 0, -1);
        g.event(1, -1, -1);
        for (int e = 3; e < Graphs.MOST_EVENTS; e++) {
            g.event(e % 2 == 1 ? 0 : 1, e - 2, e - 1);
        }
        CHECKS.due("round(118)", 59, g.round(118));
        CHECKS.due("round(119)", 59, g.round(119));
        CHECKS.throwsIndex("event(1, 118, 119)", () -> g.event(1, 118, 119));
        CHECKS.due("count(3)", 59, g.count(3));
        CHECKS.due("round(119)", 59, g.round(119));
    }

    private static void aRefusedEventIsNoEvent() {
        CHECKS.about("4 to 11: there is no such EVENT");
        SightGraph g = Graphs.fullChain();
        CHECKS.throwsIndex("event(0, 119, -1)", () -> g.event(0, LAST, -1));
        for (PairCall call : PairCall.values()) {
            CHECKS.throwsIndex(call.written(120, 0), () -> call.ask(g, 120, 0));
            CHECKS.throwsIndex(call.written(0, 120), () -> call.ask(g, 0, 120));
            CHECKS.throwsIndex(call.written(120, 120), () -> call.ask(g, 120, 120));
        }
        for (SingleCall call : SingleCall.values()) {
            CHECKS.throwsIndex(call.written(120), () -> call.ask(g, 120));
        }
        CHECKS.throwsArgument("event(0, 120, -1)", () -> g.event(0, 120, -1));
        CHECKS.throwsArgument("event(1, -1, 120)", () -> g.event(1, -1, 120));
    }

    private static void theLastEventIsAskedAboutAsAnyOther() {
        CHECKS.about("EVENTS, numbered as they are made, up to 120");
        SightGraph g = Graphs.dialogue(Graphs.MOST_EVENTS);
        CHECKS.isTrue("ancestor(119, 0)", g.ancestor(LAST, 0));
        CHECKS.isTrue("own(119, 1)", g.own(LAST, 1));
        CHECKS.isFalse("own(119, 118)", g.own(LAST, LAST - 1));
        CHECKS.isFalse("forked(119, 1)", g.forked(LAST, 1));
        CHECKS.isTrue("sees(119, 118)", g.sees(LAST, LAST - 1));
        CHECKS.due("strength(119, 0)", 2, g.strength(LAST, 0));
        CHECKS.isTrue("strongly(119, 118)", g.strongly(LAST, LAST - 1));
        CHECKS.isFalse("strongly(119, 119)", g.strongly(LAST, LAST));
        CHECKS.due("round(119)", 60, g.round(LAST));
        CHECKS.isTrue("witness(119)", g.witness(LAST));
        CHECKS.due("count(3)", 60, g.count(3));
    }

    private static void refusedCallsDoNotFillAnObject() {
        CHECKS.about("a call that throws changes nothing; 3: there are 120");
        SightGraph g = Graphs.chain(LAST);
        for (int time = 0; time < 130; time++) {
            CHECKS.throwsArgument("event(0, 119, -1)", () -> g.event(0, LAST, -1));
        }
        CHECKS.due("count(0)", 119, g.count(0));
        CHECKS.due("event(0, 118, -1)", 119, g.event(0, LAST - 1, -1));
    }

    private static void beginMakesRoomAgain() {
        CHECKS.about("2: n NODES, no EVENTS, of a full object");
        SightGraph g = Graphs.fullChain();
        g.begin(4);
        CHECKS.due("count(0)", 0, g.count(0));
        for (int e = 0; e < Graphs.MOST_EVENTS; e++) {
            CHECKS.due("event " + e, e, g.event(1, e - 1, -1));
        }
        CHECKS.throwsIndex("event(1, 119, -1)", () -> g.event(1, LAST, -1));
        CHECKS.due("count(0)", 120, g.count(0));
    }

    private static void aRefusedBeginMakesNoRoom() {
        CHECKS.about("2: n is not 2..8; a call that throws changes nothing");
        SightGraph g = Graphs.fullChain();
        CHECKS.throwsArgument("begin(1)", () -> g.begin(1));
        CHECKS.throwsArgument("begin(9)", () -> g.begin(9));
        CHECKS.throwsIndex("event(0, 119, -1)", () -> g.event(0, LAST, -1));
        CHECKS.due("count(0)", 120, g.count(0));
        CHECKS.isTrue("own(119, 0)", g.own(LAST, 0));
    }
}
