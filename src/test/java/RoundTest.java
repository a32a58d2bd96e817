/** Promises 10 and 11: round, witness. */
public final class RoundTest {
    private static final Checks CHECKS = new Checks("RoundTest");

    public static void main(String[] args) {
        roundsOfADialogue();
        greatestRoundOfTheParentsCounts();
        eventsWithoutParentsAreOfRoundOne();
        twoThirdsOfTheWitnessesAreTooFew();
        aForkerSeenThroughOthersHelpsARoundOn();
        refusesUnknownEvents();
        CHECKS.end();
    }

    // Of two nodes each must have a witness that is seen through both: from event 3 on every
    // second event opens a round, and the answer to it is the other node's witness.
    private static void roundsOfADialogue() {
        SightGraph g = Graphs.dialogue(10);
        int[] rounds = {1, 1, 1, 2, 2, 3, 3, 4, 4, 5};
        for (int e = 0; e < rounds.length; e++) {
            CHECKS.due("round(" + e + ")", rounds[e], g.round(e));
            CHECKS.due("witness(" + e + ")", e != 2, g.witness(e));
        }
    }

    private static void greatestRoundOfTheParentsCounts() {
        SightGraph g = Graphs.dialogue(6);
        CHECKS.due("round(5)", 3, g.round(5));
        g.event(0, 0, 5);
        CHECKS.due("by the other-parent's", 3, g.round(6));
        CHECKS.isTrue("a witness after a lesser round", g.witness(6));
        g.event(1, 5, 0);
        CHECKS.due("by the self-parent's", 3, g.round(7));
        CHECKS.isFalse("no witness after the same round", g.witness(7));
        g.event(0, -1, 5);
        CHECKS.due("by an other-parent alone", 3, g.round(8));
        CHECKS.isTrue("a witness without self-parent", g.witness(8));
        g.event(1, 5, -1);
        CHECKS.due("by a self-parent alone", 3, g.round(9));
        CHECKS.isFalse("no witness of a self-parent alone", g.witness(9));
    }

    private static void eventsWithoutParentsAreOfRoundOne() {
        SightGraph g = Graphs.dialogue(8);
        g.event(0, -1, -1);
        CHECKS.due("round(8)", 1, g.round(8));
        CHECKS.isTrue("witness(8)", g.witness(8));
        CHECKS.due("the greatest round stays", 4, g.count(3));
    }

    // Three nodes: events 0 and 1 come to be strongly seen early, 2 not before event 7.
    private static void twoThirdsOfTheWitnessesAreTooFew() {
        SightGraph g = Graphs.begun(3);
        g.event(0, -1, -1);
        g.event(1, -1, -1);
        g.event(2, -1, -1);
        g.event(0, 0, 1);
        g.event(1, 1, 3);
        g.event(2, 2, 4);
        CHECKS.isTrue("strongly(5, 0)", g.strongly(5, 0));
        CHECKS.isTrue("strongly(5, 1)", g.strongly(5, 1));
        CHECKS.isFalse("strongly(5, 2)", g.strongly(5, 2));
        CHECKS.due("two of three witnesses", 1, g.round(5));
        g.event(0, 3, 5);
        CHECKS.due("strength(6, 2)", 2, g.strength(6, 2));
        CHECKS.due("two of three still", 1, g.round(6));
        g.event(1, 4, 6);
        CHECKS.isTrue("strongly(7, 2)", g.strongly(7, 2));
        CHECKS.due("all three", 2, g.round(7));
        CHECKS.isTrue("witness(7)", g.witness(7));
        CHECKS.isFalse("witness(6)", g.witness(6));
    }

    // Three of four nodes are needed: 0's first witness is one of them, strongly seen through
    // nodes 1 to 3, though event 8 has both of 0's branches among its ancestors.
    private static void aForkerSeenThroughOthersHelpsARoundOn() {
        SightGraph g = new SightGraph();
        g.event(0, -1, -1);
        g.event(0, -1, -1);
        g.event(1, -1, 0);
        g.event(3, -1, 0);
        g.event(2, -1, 0);
        g.event(1, 2, 3);
        g.event(3, 3, 5);
        g.event(2, 4, 1);
        g.event(2, 7, 6);
        CHECKS.isTrue("forked(8, 0)", g.forked(8, 0));
        int[] strengths = {3, 0, 3, 3, 1};
        for (int w = 0; w < strengths.length; w++) {
            CHECKS.isTrue("witness(" + w + ")", g.witness(w));
            CHECKS.due("strength(8, " + w + ")", strengths[w], g.strength(8, w));
        }
        CHECKS.due("round(6)", 1, g.round(6));
        CHECKS.due("round(7)", 1, g.round(7));
        CHECKS.due("round(8)", 2, g.round(8));
        CHECKS.isTrue("witness(8)", g.witness(8));
    }

    private static void refusesUnknownEvents() {
        SightGraph g = Graphs.dialogue(3);
        CHECKS.throwsIndex("round(3)", () -> g.round(3));
        CHECKS.throwsIndex("witness(3)", () -> g.witness(3));
        for (int x : Graphs.NO_INDEX) {
            CHECKS.throwsIndex("round(" + x + ")", () -> g.round(x));
            CHECKS.throwsIndex("witness(" + x + ")", () -> g.witness(x));
        }
    }
}
