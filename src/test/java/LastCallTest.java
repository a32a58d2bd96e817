/** An object is used for at most 512 calls: the last of them is answered as the first. */
public final class LastCallTest {
    private static final Checks CHECKS = new Checks("LastCallTest");

    public static void main(String[] args) {
        CHECKS.about("An object is used for at most 512 calls after it has been made");
        aFullObjectAnswersToTheLast();
        beginWorksToTheLast();
        refusalsGoOnToTheLast();
        CHECKS.end();
    }

    private static void aFullObjectAnswersToTheLast() {
        SightGraph g = Graphs.fullChain();
        for (int call = Graphs.MOST_EVENTS + 1; call <= Numbers.MOST_CALLS; call++) {
            int y = call % Graphs.MOST_EVENTS;
            CHECKS.due("call " + call + ": strength(119, " + y + ")", 1, g.strength(119, y));
        }
    }

    private static void beginWorksToTheLast() {
        SightGraph g = new SightGraph();
        for (int call = 1; call <= Numbers.MOST_CALLS; call += 2) {
            g.begin(2 + call % 7);
            CHECKS.due("call " + (call + 1) + ": event(1, -1, -1)", 0, g.event(1, -1, -1));
        }
    }

    private static void refusalsGoOnToTheLast() {
        SightGraph g = Graphs.chain(1);
        for (int call = 2; call < Numbers.MOST_CALLS; call++) {
            CHECKS.throwsIndex("call " + call + ": round(1)", () -> g.round(1));
        }
        CHECKS.due("call 512: round(0)", 1, g.round(0));
    }
}
