/** The calls that take two events, for tests that try the same edge on each. */
enum PairCall {
    ANCESTOR {
        @Override
        Object ask(SightGraph g, int x, int y) {
            return g.ancestor(x, y);
        }
    },
    OWN {
        @Override
        Object ask(SightGraph g, int x, int y) {
            return g.own(x, y);
        }
    },
    SEES {
        @Override
        Object ask(SightGraph g, int x, int y) {
            return g.sees(x, y);
        }
    },
    STRENGTH {
        @Override
        Object ask(SightGraph g, int x, int y) {
            return g.strength(x, y);
        }
    },
    STRONGLY {
        @Override
        Object ask(SightGraph g, int x, int y) {
            return g.strongly(x, y);
        }
    };

    abstract Object ask(SightGraph g, int x, int y);

    String written(int x, int y) {
        return name().toLowerCase() + "(" + x + ", " + y + ")";
    }
}
