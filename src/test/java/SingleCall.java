/** The calls that take one event, for tests that try the same edge on each. */
enum SingleCall {
    FORKED {
        @Override
        Object ask(SightGraph g, int x) {
            return g.forked(x, 0);
        }

        @Override
        String written(int x) {
            return "forked(" + x + ", 0)";
        }
    },
    ROUND {
        @Override
        Object ask(SightGraph g, int x) {
            return g.round(x);
        }
    },
    WITNESS {
        @Override
        Object ask(SightGraph g, int x) {
            return g.witness(x);
        }
    };

    abstract Object ask(SightGraph g, int x);

    String written(int x) {
        return name().toLowerCase() + "(" + x + ")";
    }
}
