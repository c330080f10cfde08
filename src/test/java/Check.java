/** What the tests of the project share: answers that are due, with the status behind them. */
final class Check {
    private int wrong = 0;
    private int asked = 0;

    void due(String call, long got, long want) {
        asked++;
        if (got != want) {
            wrong++;
            System.out.println(call + " answered " + got + ", due is " + want);
        }
    }

    /** The answer of a call, and what status() tells behind it. */
    void due(RhombInflator x, String call, long got, long want, int status) {
        due(call, got, want);
        due("status() behind " + call, x.status(), status);
    }

    /** An answer with STATUS 0. */
    void gives(RhombInflator x, String call, long got, long want) {
        due(x, call, got, want, 0);
    }

    /** NONE with a STATUS. */
    void refuses(RhombInflator x, String call, long got, int status) {
        due(x, call, got, RhombInflator.NONE, status);
    }

    void holds(String what, boolean truth) {
        asked++;
        if (!truth) {
            wrong++;
            System.out.println("does not hold: " + what);
        }
    }

    void end(String name) {
        System.out.println(name + ": " + asked + " answers, " + wrong + " wrong");
        if (wrong != 0) {
            System.exit(1);
        }
    }
}
