/** The edges that the document's part "Terms" names: x itself, no parents, one parent, a fork of two. */
public final class TermEdgesTest {
    private static final Checks CHECKS = new Checks("TermEdgesTest");

    public static void main(String[] args) {
        anEventIsAmongItsAncestors();
        anEventIsAmongItsSelfAncestors();
        oneEventIsNoFork();
        anEventAndItsSelfAncestorAreNoFork();
        twoEventsWithoutSelfParentAreAFork();
        twoEventsOfOneSelfParentAreAFork();
        halfAForkIsSeen();
        bothHalvesHideEveryEventOfTheNode();
        aForkOutsideTheAncestorsHidesNothing();
        anEventMayHideItself();
        strengthMayBeNone();
        aRoundWithoutParentsIsOne();
        aRoundOfOneParentIsItsOwn();
        aWitnessHasNoSelfParent();
        aWitnessHasASelfParentOfALesserRound();
        noWitnessHasASelfParentOfTheSameRound();
        CHECKS.end();
    }

    private static void anEventIsAmongItsAncestors() {
        CHECKS.about("4: ANCESTORS of x: x");
        SightGraph g = Graphs.chain(120);
        for (int x = 0; x < 120; x++) {
            CHECKS.isTrue("ancestor(" + x + ", " + x + ")", g.ancestor(x, x));
        }
    }

    private static void anEventIsAmongItsSelfAncestors() {
        CHECKS.about("5: SELF-ANCESTORS: x");
        SightGraph g = Graphs.chain(120);
        for (int x = 0; x < 120; x++) {
            CHECKS.isTrue("own(" + x + ", " + x + ")", g.own(x, x));
        }
    }

    private static void oneEventIsNoFork() {
        CHECKS.about("A FORK of a NODE: two EVENTS of it");
        SightGraph g = Graphs.begun(2);
        g.event(0, -1, -1);
        CHECKS.isFalse("forked(0, 0)", g.forked(0, 0));
        CHECKS.isFalse("forked(0, 1), a node of no events", g.forked(0, 1));
        g.event(1, -1, -1);
        CHECKS.due("count(2), an event each", 0, g.count(2));
    }

    private static void anEventAndItsSelfAncestorAreNoFork() {
        CHECKS.about("A FORK: neither a SELF-ANCESTOR of the other");
        SightGraph g = Graphs.chain(3);
        CHECKS.isFalse("forked(1, 0)", g.forked(1, 0));
        CHECKS.isFalse("forked(2, 0)", g.forked(2, 0));
        CHECKS.due("count(2)", 0, g.count(2));
    }

    private static void twoEventsWithoutSelfParentAreAFork() {
        CHECKS.about("A FORK: neither a SELF-ANCESTOR of the other, for there is none");
        SightGraph g = Graphs.begun(2);
        g.event(0, -1, -1);
        g.event(0, -1, -1);
        CHECKS.due("count(2)", 1, g.count(2));
        g.event(1, -1, 0);
        g.event(1, 2, 1);
        CHECKS.isTrue("forked(3, 0)", g.forked(3, 0));
    }

    private static void twoEventsOfOneSelfParentAreAFork() {
        CHECKS.about("A FORK: neither a SELF-ANCESTOR of the other, but both of one");
        SightGraph g = Graphs.begun(2);
        g.event(0, -1, -1);
        g.event(0, 0, -1);
        CHECKS.due("count(2) before", 0, g.count(2));
        g.event(0, 0, -1);
        CHECKS.due("count(2)", 1, g.count(2));
        g.event(1, -1, 1);
        g.event(1, 3, 2);
        CHECKS.isTrue("forked(4, 0)", g.forked(4, 0));
    }

    private static void halfAForkIsSeen() {
        CHECKS.about("7: no FORK of y's creator with both among x's ANCESTORS; one is");
        SightGraph g = Graphs.begun(2);
        g.event(0, -1, -1);
        g.event(0, -1, -1);
        g.event(1, -1, 1);
        CHECKS.isFalse("forked(2, 0)", g.forked(2, 0));
        CHECKS.isTrue("sees(2, 1)", g.sees(2, 1));
        CHECKS.isFalse("sees(2, 0), no ancestor", g.sees(2, 0));
    }

    private static void bothHalvesHideEveryEventOfTheNode() {
        CHECKS.about("7: no FORK of y's creator with both among x's ANCESTORS, y or not");
        SightGraph g = Graphs.begun(2);
        g.event(0, -1, -1);
        g.event(0, 0, -1);
        g.event(0, 0, -1);
        g.event(1, -1, 1);
        CHECKS.isTrue("sees(3, 0)", g.sees(3, 0));
        g.event(1, 3, 2);
        for (int y = 0; y < 3; y++) {
            CHECKS.isTrue("ancestor(4, " + y + ")", g.ancestor(4, y));
            CHECKS.isFalse("sees(4, " + y + ")", g.sees(4, y));
        }
        CHECKS.isTrue("sees(4, 3), of a node without fork", g.sees(4, 3));
    }

    private static void aForkOutsideTheAncestorsHidesNothing() {
        CHECKS.about("7: among x's ANCESTORS; what comes later is not");
        SightGraph g = Graphs.begun(2);
        g.event(0, -1, -1);
        g.event(1, -1, 0);
        g.event(0, -1, -1);
        g.event(0, 0, 1);
        CHECKS.due("count(2)", 1, g.count(2));
        CHECKS.isTrue("sees(1, 0)", g.sees(1, 0));
        CHECKS.isTrue("sees(3, 0)", g.sees(3, 0));
        CHECKS.isFalse("forked(3, 0)", g.forked(3, 0));
    }

    private static void anEventMayHideItself() {
        CHECKS.about("7: y is an ANCESTOR of x, and no FORK of y's creator; y may be x");
        SightGraph g = Graphs.begun(2);
        g.event(0, -1, -1);
        g.event(1, -1, 0);
        g.event(0, -1, 1);
        CHECKS.isTrue("ancestor(2, 2)", g.ancestor(2, 2));
        CHECKS.isTrue("forked(2, 0)", g.forked(2, 0));
        CHECKS.isFalse("sees(2, 2)", g.sees(2, 2));
        CHECKS.isTrue("sees(0, 0)", g.sees(0, 0));
    }

    private static void strengthMayBeNone() {
        CHECKS.about("8: how many NODES have such a z; none at least");
        SightGraph g = Graphs.dialogue(2);
        CHECKS.due("strength(0, 1)", 0, g.strength(0, 1));
        CHECKS.due("strength(1, 0)", 0, g.strength(1, 0));
        CHECKS.isFalse("strongly(1, 0)", g.strongly(1, 0));
        CHECKS.due("strength(1, 1)", 1, g.strength(1, 1));
    }

    private static void aRoundWithoutParentsIsOne() {
        CHECKS.about("10: ROUND of x: without parents 1");
        for (int events : new int[] {0, 1, 2, 20, 64, 119}) {
            SightGraph g = Graphs.dialogue(events);
            g.event(1, -1, -1);
            CHECKS.due("round(" + events + ")", 1, g.round(events));
        }
    }

    private static void aRoundOfOneParentIsItsOwn() {
        CHECKS.about("10: else r, the greatest one of its parents', be it one parent alone");
        SightGraph g = Graphs.dialogue(10);
        CHECKS.due("round(9)", 5, g.round(9));
        g.event(1, 9, -1);
        CHECKS.due("of a self-parent alone", 5, g.round(10));
        g.event(0, -1, 9);
        CHECKS.due("of an other-parent alone", 5, g.round(11));
        g.event(0, 0, 9);
        CHECKS.due("of the other-parent, the greater", 5, g.round(12));
        g.event(1, 9, 0);
        CHECKS.due("of the self-parent, the greater", 5, g.round(13));
    }

    private static void aWitnessHasNoSelfParent() {
        CHECKS.about("11: A WITNESS: no SELF-PARENT, of whatever ROUND");
        SightGraph g = Graphs.dialogue(10);
        g.event(0, -1, 9);
        CHECKS.due("round(10)", 5, g.round(10));
        CHECKS.isTrue("witness(10)", g.witness(10));
        g.event(0, -1, -1);
        CHECKS.isTrue("witness(11)", g.witness(11));
    }

    private static void aWitnessHasASelfParentOfALesserRound() {
        CHECKS.about("11: or one of a lesser ROUND");
        SightGraph g = Graphs.dialogue(4);
        CHECKS.due("round(1)", 1, g.round(1));
        CHECKS.due("round(3)", 2, g.round(3));
        CHECKS.isTrue("witness(3), less by one", g.witness(3));
        SightGraph later = Graphs.dialogue(10);
        later.event(0, 0, 9);
        CHECKS.due("round(10)", 5, later.round(10));
        CHECKS.isTrue("witness(10), less by four", later.witness(10));
    }

    private static void noWitnessHasASelfParentOfTheSameRound() {
        CHECKS.about("11: not one of the same ROUND");
        SightGraph g = Graphs.dialogue(3);
        CHECKS.due("round(2)", 1, g.round(2));
        CHECKS.isFalse("witness(2)", g.witness(2));
        g.event(0, 2, -1);
        CHECKS.isFalse("witness(3)", g.witness(3));
    }
}
