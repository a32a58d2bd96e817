/** Counts and prints the answers that are not as due. */
final class Checks {
    private final String name;
    private String sentence = "";
    private int made = 0;
    private int wrong = 0;

    Checks(String name) {
        this.name = name;
    }

    /** Names the document's sentence that the next checks hold the class to. */
    void about(String words) {
        sentence = " [" + words + "]";
    }

    void due(String call, Object want, Object got) {
        made++;
        if (!want.equals(got)) {
            wrong++;
            System.out.println(name + ": " + call + " answered " + got + ", due is " + want + sentence);
        }
    }

    void isTrue(String call, boolean got) {
        due(call, true, got);
    }

    void isFalse(String call, boolean got) {
        due(call, false, got);
    }

    void throwsArgument(String call, Runnable run) {
        throwsOne(call, IllegalArgumentException.class, run);
    }

    void throwsIndex(String call, Runnable run) {
        throwsOne(call, IndexOutOfBoundsException.class, run);
    }

    void throwsOne(String call, Class<? extends RuntimeException> want, Runnable run) {
        due(call, "throws." + want.getSimpleName(), outcome(run));
    }

    // The very class counts: an ArrayIndexOutOfBoundsException would be the program's own fault.
    private static String outcome(Runnable run) {
        try {
            run.run();
        } catch (RuntimeException e) {
            return "throws." + e.getClass().getSimpleName();
        }
        return "nothing thrown";
    }

    void end() {
        System.out.println(name + ": " + made + " checks, " + wrong + " wrong");
        if (wrong != 0 || made == 0) {
            System.exit(1);
        }
    }
}
