/** The edges of count (promise 12). */
public final class CountEdgesTest {
    private static final Checks CHECKS = new Checks("CountEdgesTest");

    public static void main(String[] args) {
        countTakesZeroToThree();
        countRefusesOthers();
        eventsAreCountedFromNoneToAll();
        nodesAreCountedFromTheLeastToTheGreatest();
        forksAreCountedFromNoneToAll();
        aForkOfTheLastEventCounts();
        aForkOfTheFirstAndTheLastEventCounts();
        theGreatestRoundIsZeroWithoutEvents();
        theGreatestRoundIsOneWithTheFirstEvent();
        theGreatestRoundNeedNotBeTheLast();
        CHECKS.end();
    }

    private static void countTakesZeroToThree() {
        CHECKS.about("12: what 0, 1, 2, 3");
        SightGraph g = Graphs.lateFork();
        CHECKS.due("count(0)", 9, g.count(0));
        CHECKS.due("count(1)", 4, g.count(1));
        CHECKS.due("count(2)", 1, g.count(2));
        CHECKS.due("count(3)", 1, g.count(3));
    }

    private static void countRefusesOthers() {
        CHECKS.about("12: IllegalArgumentException for others");
        for (SightGraph g : new SightGraph[] {new SightGraph(), Graphs.lateFork(), Graphs.fullChain()}) {
            for (int what : Numbers.outside(4)) {
                CHECKS.throwsArgument("count(" + what + ")", () -> g.count(what));
            }
        }
    }

    private static void eventsAreCountedFromNoneToAll() {
        CHECKS.about("12: 0: EVENTS");
        SightGraph g = new SightGraph();
        CHECKS.due("count(0) of none", 0, g.count(0));
        for (int e = 0; e < Graphs.MOST_EVENTS; e++) {
            g.event(e % 4, -1, -1);
            CHECKS.due("count(0)", e + 1, g.count(0));
        }
    }

    private static void nodesAreCountedFromTheLeastToTheGreatest() {
        CHECKS.about("12: 1: NODES, with EVENTS or without");
        for (int n = Numbers.LEAST_NODES; n <= Numbers.MOST_NODES; n++) {
            SightGraph g = Graphs.begun(n);
            CHECKS.due("count(1)", n, g.count(1));
            g.event(0, -1, -1);
            CHECKS.due("count(1) with an event", n, g.count(1));
        }
    }

    private static void forksAreCountedFromNoneToAll() {
        CHECKS.about("12: 2: NODES that have a FORK");
        for (int n = Numbers.LEAST_NODES; n <= Numbers.MOST_NODES; n++) {
            SightGraph g = Graphs.begun(n);
            for (int e = 0; e < 2 * n; e++) {
                g.event(e % n, -1, -1);
                CHECKS.due("count(2) of " + n, Math.max(0, e + 1 - n), g.count(2));
            }
        }
    }

    private static void aForkOfTheLastEventCounts() {
        CHECKS.about("12: 2: NODES that have a FORK, the first or the last EVENT among it");
        for (int size : new int[] {1, 2, 62, 63, 64, 65, 118, 119}) {
            SightGraph g = Graphs.chain(size);
            CHECKS.due("count(2) of a chain of " + size, 0, g.count(2));
            g.event(0, -1, -1);
            CHECKS.due("count(2) with a second root at " + size, 1, g.count(2));
        }
        for (int size : new int[] {2, 63, 64, 65, 119}) {
            SightGraph g = Graphs.chain(size);
            g.event(0, size - 2, -1);
            CHECKS.due("count(2) with a branch at " + size, 1, g.count(2));
        }
    }

    private static void aForkOfTheFirstAndTheLastEventCounts() {
        CHECKS.about("12: 2: NODES that have a FORK, of the first EVENT and the last alone");
        for (int last : new int[] {1, 2, 31, 32, 62, 63, 64, 65, 118, 119}) {
            SightGraph g = Graphs.begun(2);
            g.event(0, -1, -1);
            for (int e = 1; e < last; e++) {
                g.event(1, e == 1 ? -1 : e - 1, -1);
            }
            CHECKS.due("count(2) of " + last, 0, g.count(2));
            g.event(0, -1, -1);
            CHECKS.due("count(2) with a second root at " + last, 1, g.count(2));
        }
    }

    private static void theGreatestRoundIsZeroWithoutEvents() {
        CHECKS.about("12: 3: the greatest ROUND (0 without EVENTS)");
        SightGraph g = new SightGraph();
        CHECKS.due("count(3) of a new object", 0, g.count(3));
        g.begin(2);
        CHECKS.due("count(3) of a begun object", 0, g.count(3));
        CHECKS.throwsArgument("event(2, -1, -1)", () -> g.event(2, -1, -1));
        CHECKS.due("count(3) after a refused event", 0, g.count(3));
        SightGraph again = Graphs.dialogue(10);
        again.begin(2);
        CHECKS.due("count(3) of an object begun again", 0, again.count(3));
    }

    private static void theGreatestRoundIsOneWithTheFirstEvent() {
        CHECKS.about("12: 3: the greatest ROUND, of one EVENT");
        SightGraph g = new SightGraph();
        g.event(3, -1, -1);
        CHECKS.due("count(3)", 1, g.count(3));
    }

    private static void theGreatestRoundNeedNotBeTheLast() {
        CHECKS.about("12: 3: the greatest ROUND, not the last one's");
        SightGraph g = Graphs.dialogue(10);
        g.event(0, -1, -1);
        CHECKS.due("round(10)", 1, g.round(10));
        CHECKS.due("count(3)", 5, g.count(3));
    }
}
