/** A call that throws changes nothing: every answer stays as it was. */
public final class UnchangedTest {
    private static final Checks CHECKS = new Checks("UnchangedTest");

    public static void main(String[] args) {
        wrongCallsLeave("a new object", new SightGraph(), 4);
        wrongCallsLeave("a dialogue", Graphs.dialogue(9), 2);
        wrongCallsLeave("a fork", Graphs.lateFork(), 4);
        wrongCallsLeave("a full object", Graphs.fullChain(), 4);
        aFullObjectRefusesWithoutTrace();
        CHECKS.end();
    }

    private static void wrongCallsLeave(String name, SightGraph g, int nodes) {
        String before = answers(g, nodes);
        int events = g.count(0);
        CHECKS.throwsArgument("begin(1)", () -> g.begin(1));
        CHECKS.throwsArgument("begin(9)", () -> g.begin(9));
        CHECKS.throwsArgument("event of no node", () -> g.event(nodes, -1, -1));
        CHECKS.throwsArgument("event of no self-parent", () -> g.event(0, events, -1));
        CHECKS.throwsArgument("event of no other-parent", () -> g.event(0, -1, events));
        CHECKS.throwsIndex("ancestor", () -> g.ancestor(events, 0));
        CHECKS.throwsIndex("own", () -> g.own(0, events));
        CHECKS.throwsArgument("forked", () -> g.forked(0, nodes));
        CHECKS.throwsIndex("forked", () -> g.forked(events, 0));
        CHECKS.throwsIndex("sees", () -> g.sees(events, 0));
        CHECKS.throwsIndex("strength", () -> g.strength(0, events));
        CHECKS.throwsIndex("strongly", () -> g.strongly(events, events));
        CHECKS.throwsIndex("round", () -> g.round(events));
        CHECKS.throwsIndex("witness", () -> g.witness(-1));
        CHECKS.throwsArgument("count", () -> g.count(4));
        CHECKS.isTrue("the answers of " + name + " stay", before.equals(answers(g, nodes)));
    }

    private static void aFullObjectRefusesWithoutTrace() {
        SightGraph g = Graphs.fullChain();
        String before = answers(g, 4);
        CHECKS.throwsIndex("event(1, -1, 119)", () -> g.event(1, -1, 119));
        CHECKS.throwsIndex("event(0, -1, -1)", () -> g.event(0, -1, -1));
        CHECKS.isTrue("the answers of a full object stay", before.equals(answers(g, 4)));
    }

    private static String answers(SightGraph g, int nodes) {
        StringBuilder all = new StringBuilder();
        for (int what = 0; what < 4; what++) {
            all.append(g.count(what)).append(' ');
        }
        int events = g.count(0);
        for (int x = 0; x < events; x++) {
            all.append(g.round(x)).append(g.witness(x));
            for (int node = 0; node < nodes; node++) {
                all.append(g.forked(x, node));
            }
            for (int y = 0; y < events; y++) {
                all.append(g.ancestor(x, y)).append(g.own(x, y)).append(g.sees(x, y));
                all.append(g.strength(x, y)).append(g.strongly(x, y));
            }
        }
        return all.toString();
    }
}
