import java.util.function.Consumer;

/** "The answers and state changes described above": begin and event alone change what is answered. */
public final class QuestionTest {
    private static final Checks CHECKS = new Checks("QuestionTest");
    private static final int EVENTS = 6;

    public static void main(String[] args) {
        askedTwiceAnswersTheSame();
        pairsAskedBetweenEventsChangeNothing();
        singleEventsAskedBetweenEventsChangeNothing();
        countsAskedBetweenEventsChangeNothing();
        aForkMadeLaterLeavesEarlierAnswers();
        aRoundOpenedLaterLeavesEarlierAnswers();
        aFullObjectLeavesEarlierAnswers();
        CHECKS.end();
    }

    /** Node 0 forks after event 2; node 1 knows of both sides, node 0 of one. */
    private static SightGraph askedAfterEachEvent(Consumer<SightGraph> question) {
        SightGraph g = Graphs.begun(2);
        int[][] events = {{0, -1, -1}, {1, -1, -1}, {0, 0, 1}, {1, 1, 2}, {0, 0, -1}, {1, 3, 4}};
        for (int[] event : events) {
            g.event(event[0], event[1], event[2]);
            question.accept(g);
        }
        return g;
    }

    private static String unasked() {
        return Answers.all(askedAfterEachEvent(g -> { }), 2);
    }

    private static void askedTwiceAnswersTheSame() {
        CHECKS.about("no question is a state change, asked twice");
        SightGraph g = askedAfterEachEvent(asked -> { });
        CHECKS.due("all answers", unasked(), Answers.all(g, 2));
        CHECKS.due("all answers once more", unasked(), Answers.all(g, 2));
    }

    private static void pairsAskedBetweenEventsChangeNothing() {
        CHECKS.about("no question is a state change: 4, 5, 7, 8, 9");
        for (PairCall call : PairCall.values()) {
            SightGraph g = askedAfterEachEvent(asked -> askEveryPair(call, asked));
            CHECKS.due("all answers after " + call, unasked(), Answers.all(g, 2));
        }
    }

    private static void askEveryPair(PairCall call, SightGraph g) {
        int events = g.count(0);
        for (int x = 0; x < events; x++) {
            for (int y = 0; y < events; y++) {
                call.ask(g, x, y);
            }
        }
    }

    private static void singleEventsAskedBetweenEventsChangeNothing() {
        CHECKS.about("no question is a state change: 6, 10, 11");
        for (SingleCall call : SingleCall.values()) {
            SightGraph g = askedAfterEachEvent(asked -> {
                for (int x = asked.count(0) - 1; x >= 0; x--) {
                    call.ask(asked, x);
                }
            });
            CHECKS.due("all answers after " + call, unasked(), Answers.all(g, 2));
        }
    }

    private static void countsAskedBetweenEventsChangeNothing() {
        CHECKS.about("no question is a state change: 12");
        for (int what = 0; what < 4; what++) {
            int asked = what;
            SightGraph g = askedAfterEachEvent(each -> each.count(asked));
            CHECKS.due("all answers after count(" + what + ")", unasked(), Answers.all(g, 2));
        }
    }

    // What the terms say of an event, they say by its ancestors, which are all made before it.
    private static void aForkMadeLaterLeavesEarlierAnswers() {
        CHECKS.about("One more EVENT: others stay as they are, though it forks");
        SightGraph g = Graphs.dialogue(EVENTS);
        String due = Answers.ofFirst(g, 2, EVENTS);
        g.event(0, 0, -1);
        g.event(1, -1, 6);
        g.event(1, 5, 6);
        g.event(0, 4, 8);
        CHECKS.due("count(2)", 2, g.count(2));
        CHECKS.due("answers of the first events", due, Answers.ofFirst(g, 2, EVENTS));
    }

    private static void aRoundOpenedLaterLeavesEarlierAnswers() {
        CHECKS.about("One more EVENT: others stay as they are, though it opens a ROUND");
        SightGraph g = Graphs.dialogue(EVENTS);
        String due = Answers.ofFirst(g, 2, EVENTS);
        for (int e = EVENTS; e < 40; e++) {
            g.event(e % 2, e - 2, e - 1);
        }
        CHECKS.due("count(3)", 20, g.count(3));
        CHECKS.due("answers of the first events", due, Answers.ofFirst(g, 2, EVENTS));
    }

    private static void aFullObjectLeavesEarlierAnswers() {
        CHECKS.about("One more EVENT: others stay as they are, until there are 120");
        SightGraph g = Graphs.lateFork();
        String due = Answers.ofFirst(Graphs.lateFork(), 4, EVENTS);
        for (int e = g.count(0); e < Graphs.MOST_EVENTS; e++) {
            g.event(e % 4, -1, e % 2 == 0 ? -1 : e - 1);
        }
        CHECKS.due("answers of the first events", due, Answers.ofFirst(g, 4, EVENTS));
    }
}
