/** begin when there are events already (promise 2). */
public final class BeginAgainTest {
    private static final Checks CHECKS = new Checks("BeginAgainTest");

    public static void main(String[] args) {
        eventsAreGone();
        numbersBeginAtZero();
        theSameNumberOfNodesMayBegin();
        fewerNodesAreFewer();
        moreNodesAreMore();
        forksAreForgotten();
        parentsAreForgotten();
        roundsAreForgotten();
        anObjectBegunAgainIsAsANewOne();
        beginMayFollowBegin();
        aRefusedBeginKeepsTheEvents();
        otherObjectsAreLeftAlone();
        CHECKS.end();
    }

    private static void eventsAreGone() {
        CHECKS.about("2: no EVENTS");
        for (int size : new int[] {1, 2, 64, 65, 120}) {
            SightGraph g = Graphs.chain(size);
            g.begin(4);
            CHECKS.due("count(0) after " + size, 0, g.count(0));
            for (PairCall call : PairCall.values()) {
                CHECKS.throwsIndex(call.written(0, 0), () -> call.ask(g, 0, 0));
                CHECKS.throwsIndex(call.written(size - 1, 0), () -> call.ask(g, size - 1, 0));
            }
            for (SingleCall call : SingleCall.values()) {
                CHECKS.throwsIndex(call.written(0), () -> call.ask(g, 0));
                CHECKS.throwsIndex(call.written(size - 1), () -> call.ask(g, size - 1));
            }
            CHECKS.throwsArgument("event(0, 0, -1)", () -> g.event(0, 0, -1));
            CHECKS.throwsArgument("event(1, -1, 0)", () -> g.event(1, -1, 0));
        }
    }

    private static void numbersBeginAtZero() {
        CHECKS.about("EVENTS, numbered as they are made");
        SightGraph g = Graphs.lateFork();
        g.begin(4);
        for (int e = 0; e < 12; e++) {
            CHECKS.due("event " + e, e, g.event(e % 4, -1, -1));
            int next = e + 1;
            CHECKS.throwsIndex("round(" + next + ")", () -> g.round(next));
        }
    }

    private static void theSameNumberOfNodesMayBegin() {
        CHECKS.about("2: n NODES, no EVENTS");
        for (int n = Numbers.LEAST_NODES; n <= Numbers.MOST_NODES; n++) {
            SightGraph g = Graphs.begun(n);
            g.event(n - 1, -1, -1);
            g.begin(n);
            CHECKS.due("count(0) of " + n, 0, g.count(0));
            CHECKS.due("count(1) of " + n, n, g.count(1));
        }
    }

    private static void fewerNodesAreFewer() {
        CHECKS.about("2: n NODES, fewer than before");
        SightGraph g = Graphs.begun(8);
        g.event(7, -1, -1);
        g.begin(2);
        CHECKS.throwsArgument("event(7, -1, -1)", () -> g.event(7, -1, -1));
        CHECKS.throwsArgument("event(2, -1, -1)", () -> g.event(2, -1, -1));
        CHECKS.due("event(1, -1, -1)", 0, g.event(1, -1, -1));
        CHECKS.throwsArgument("forked(0, 2)", () -> g.forked(0, 2));
        CHECKS.due("event(0, -1, 0)", 1, g.event(0, -1, 0));
        CHECKS.isTrue("strongly(1, 0), two of two", g.strongly(1, 0));
    }

    private static void moreNodesAreMore() {
        CHECKS.about("2: n NODES, more than before");
        SightGraph g = Graphs.dialogue(6);
        g.begin(8);
        CHECKS.due("event(7, -1, -1)", 0, g.event(7, -1, -1));
        CHECKS.isFalse("forked(0, 7)", g.forked(0, 7));
        CHECKS.due("event(0, -1, 0)", 1, g.event(0, -1, 0));
        CHECKS.isFalse("strongly(1, 0), two of eight", g.strongly(1, 0));
        CHECKS.throwsArgument("event(8, -1, -1)", () -> g.event(8, -1, -1));
    }

    private static void forksAreForgotten() {
        CHECKS.about("2: no EVENTS, and so no FORK");
        SightGraph g = Graphs.lateFork();
        CHECKS.due("count(2) before", 1, g.count(2));
        g.begin(4);
        CHECKS.due("count(2)", 0, g.count(2));
        g.event(0, -1, -1);
        CHECKS.due("count(2) with one event of the node", 0, g.count(2));
        g.event(0, 0, -1);
        g.event(1, -1, 1);
        CHECKS.isFalse("forked(2, 0)", g.forked(2, 0));
        CHECKS.isTrue("sees(2, 0)", g.sees(2, 0));
        CHECKS.due("count(2) with a chain", 0, g.count(2));
    }

    private static void parentsAreForgotten() {
        CHECKS.about("2: no EVENTS, and so no ANCESTORS");
        SightGraph g = Graphs.fullChain();
        g.begin(4);
        for (int e = 0; e < 70; e++) {
            g.event(0, -1, -1);
        }
        for (int x = 1; x < 70; x++) {
            CHECKS.isFalse("ancestor(" + x + ", 0)", g.ancestor(x, 0));
            CHECKS.isFalse("own(" + x + ", 0)", g.own(x, 0));
            CHECKS.isTrue("witness(" + x + ")", g.witness(x));
        }
    }

    private static void roundsAreForgotten() {
        CHECKS.about("2: no EVENTS, and so no ROUND");
        SightGraph g = Graphs.dialogue(20);
        CHECKS.due("count(3) before", 10, g.count(3));
        g.begin(2);
        CHECKS.due("count(3)", 0, g.count(3));
        g.event(0, -1, -1);
        g.event(0, 0, -1);
        CHECKS.due("count(3) of a chain", 1, g.count(3));
        CHECKS.due("round(1)", 1, g.round(1));
        CHECKS.isFalse("witness(1)", g.witness(1));
    }

    private static void anObjectBegunAgainIsAsANewOne() {
        CHECKS.about("2: n NODES, no EVENTS, and no trace of former ones");
        String due = Answers.all(Graphs.lateFork(), 4);
        for (SightGraph g : new SightGraph[] {Graphs.dialogue(20), Graphs.chain(20), Graphs.lateFork()}) {
            g.begin(4);
            Graphs.addLateFork(g);
            CHECKS.due("all answers of the late fork", due, Answers.all(g, 4));
        }
    }

    private static void beginMayFollowBegin() {
        CHECKS.about("2: n NODES");
        SightGraph g = Graphs.lateFork();
        g.begin(8);
        g.begin(2);
        g.begin(5);
        CHECKS.due("count(0)", 0, g.count(0));
        CHECKS.due("count(1)", 5, g.count(1));
        CHECKS.due("event(4, -1, -1)", 0, g.event(4, -1, -1));
    }

    private static void aRefusedBeginKeepsTheEvents() {
        CHECKS.about("2: n is not 2..8; a call that throws changes nothing");
        String due = Answers.all(Graphs.lateFork(), 4);
        for (int n : Numbers.noNodeCounts()) {
            SightGraph g = Graphs.lateFork();
            CHECKS.throwsArgument("begin(" + n + ")", () -> g.begin(n));
            CHECKS.due("all answers after begin(" + n + ")", due, Answers.all(g, 4));
            CHECKS.due("the next event after begin(" + n + ")", 9, g.event(3, 4, 8));
        }
    }

    private static void otherObjectsAreLeftAlone() {
        CHECKS.about("2: n NODES, no EVENTS, of this object");
        SightGraph kept = Graphs.lateFork();
        SightGraph begun = Graphs.lateFork();
        begun.begin(2);
        begun.event(1, -1, -1);
        CHECKS.due("all answers of another object", Answers.all(Graphs.lateFork(), 4), Answers.all(kept, 4));
    }
}
