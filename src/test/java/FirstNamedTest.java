/** Of several exceptions of a call the one named first in its heading is thrown. */
public final class FirstNamedTest {
    private static final Checks CHECKS = new Checks("FirstNamedTest");
    private static final int LAST = Graphs.MOST_EVENTS - 1;

    public static void main(String[] args) {
        eventNamesAWrongNodeBeforeTheLimit();
        eventNamesAWrongSelfBeforeTheLimit();
        eventNamesAWrongOtherBeforeTheLimit();
        eventNamesTheLimitAlone();
        forkedNamesAWrongNodeBeforeAWrongEvent();
        forkedNamesAWrongNodeBeforeAnEmptyObject();
        forkedNamesAWrongEventAlone();
        CHECKS.end();
    }

    private static void eventNamesAWrongNodeBeforeTheLimit() {
        CHECKS.about("3: there is no such NODE, and there are 120");
        SightGraph g = Graphs.fullChain();
        for (int node : Numbers.outside(4)) {
            CHECKS.throwsArgument("event(" + node + ", -1, -1)", () -> g.event(node, -1, -1));
            CHECKS.throwsArgument("event(" + node + ", 119, -1)", () -> g.event(node, LAST, -1));
            CHECKS.throwsArgument("event(" + node + ", -1, 119)", () -> g.event(node, -1, LAST));
        }
        CHECKS.due("count(0)", 120, g.count(0));
    }

    private static void eventNamesAWrongSelfBeforeTheLimit() {
        CHECKS.about("3: self is no EVENT of it, and there are 120");
        SightGraph g = Graphs.fullChain();
        for (int self : Numbers.noParents(Graphs.MOST_EVENTS)) {
            CHECKS.throwsArgument("event(0, " + self + ", -1)", () -> g.event(0, self, -1));
        }
        CHECKS.throwsArgument("event(1, 0, -1)", () -> g.event(1, 0, -1));
        CHECKS.throwsArgument("event(1, 119, -1)", () -> g.event(1, LAST, -1));
        CHECKS.throwsArgument("event(1, 119, 0)", () -> g.event(1, LAST, 0));
        CHECKS.due("count(0)", 120, g.count(0));
    }

    private static void eventNamesAWrongOtherBeforeTheLimit() {
        CHECKS.about("3: other no EVENT of another one, and there are 120");
        SightGraph g = Graphs.fullChain();
        for (int other : Numbers.noParents(Graphs.MOST_EVENTS)) {
            CHECKS.throwsArgument("event(1, -1, " + other + ")", () -> g.event(1, -1, other));
            CHECKS.throwsArgument("event(0, 119, " + other + ")", () -> g.event(0, LAST, other));
        }
        CHECKS.throwsArgument("event(0, -1, 0)", () -> g.event(0, -1, 0));
        CHECKS.throwsArgument("event(0, -1, 119)", () -> g.event(0, -1, LAST));
        CHECKS.throwsArgument("event(0, 119, 0)", () -> g.event(0, LAST, 0));
        CHECKS.due("count(0)", 120, g.count(0));
    }

    private static void eventNamesTheLimitAlone() {
        CHECKS.about("3: there are 120, and nothing else is wrong");
        SightGraph g = Graphs.fullChain();
        for (int node = 0; node < 4; node++) {
            int creator = node;
            CHECKS.throwsIndex("event(" + node + ", -1, -1)", () -> g.event(creator, -1, -1));
        }
        CHECKS.throwsIndex("event(0, 0, -1)", () -> g.event(0, 0, -1));
        CHECKS.throwsIndex("event(0, 119, -1)", () -> g.event(0, LAST, -1));
        CHECKS.throwsIndex("event(3, -1, 119)", () -> g.event(3, -1, LAST));
    }

    private static void forkedNamesAWrongNodeBeforeAWrongEvent() {
        CHECKS.about("6: there is no such NODE (looked at first), nor such an EVENT");
        SightGraph g = Graphs.lateFork();
        for (int node : Numbers.outside(4)) {
            for (int x : Numbers.outside(9)) {
                CHECKS.throwsArgument("forked(" + x + ", " + node + ")", () -> g.forked(x, node));
            }
        }
        SightGraph full = Graphs.fullChain();
        CHECKS.throwsArgument("forked(120, 4) of a full object", () -> full.forked(120, 4));
        CHECKS.throwsArgument("forked(-1, -1) of a full object", () -> full.forked(-1, -1));
    }

    private static void forkedNamesAWrongNodeBeforeAnEmptyObject() {
        CHECKS.about("6: there is no such NODE (looked at first), nor any EVENT");
        for (int n = Numbers.LEAST_NODES; n <= Numbers.MOST_NODES; n++) {
            SightGraph g = Graphs.begun(n);
            int nodes = n;
            CHECKS.throwsArgument("forked(0, " + n + ")", () -> g.forked(0, nodes));
            CHECKS.throwsArgument("forked(0, -1) of " + n, () -> g.forked(0, -1));
            CHECKS.throwsIndex("forked(0, " + (n - 1) + ")", () -> g.forked(0, nodes - 1));
            CHECKS.throwsIndex("forked(0, 0) of " + n, () -> g.forked(0, 0));
        }
    }

    private static void forkedNamesAWrongEventAlone() {
        CHECKS.about("6: there is no such EVENT, but such a NODE");
        SightGraph g = Graphs.lateFork();
        for (int x : Numbers.outside(9)) {
            CHECKS.throwsIndex("forked(" + x + ", 0)", () -> g.forked(x, 0));
            CHECKS.throwsIndex("forked(" + x + ", 3)", () -> g.forked(x, 3));
        }
    }
}
