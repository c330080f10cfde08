/** What the tests of the project share: answers that are due, with the status behind them. */
final class Check {
    // One fault may spoil thousands of answers; the first ones tell enough.
    private static final int MOST_TOLD = 100;

    private int wrong = 0;
    private int asked = 0;

    private void tell(String what) {
        wrong++;
        if (wrong <= MOST_TOLD) {
            System.out.println(what);
        }
    }

    void due(String call, long got, long want) {
        asked++;
        if (got != want) {
            tell(call + " answered " + got + ", due is " + want);
        }
    }

    /** The answer of a call, and what status() tells behind it. */
    void due(RhombInflator x, String call, long got, long want, int status) {
        due(call, got, want);
        due("status() behind " + call, x.status(), status);
    }

    /** An answer with STATUS 0. */
    void gives(RhombInflator x, String call, long got, long want) {
        due(x, call, got, want, 0);
    }

    /** NONE with a STATUS. */
    void refuses(RhombInflator x, String call, long got, int status) {
        due(x, call, got, RhombInflator.NONE, status);
    }

    void holds(String what, boolean truth) {
        asked++;
        if (!truth) {
            tell("does not hold: " + what);
        }
    }

    void end(String name) {
        System.out.println(name + ": " + asked + " answers, " + wrong + " wrong");
        if (wrong != 0) {
            System.exit(1);
        }
    }
}
