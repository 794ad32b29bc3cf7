/** Counts the answers that are not as due, and prints them. */
final class Due {
    private int wrong = 0;
    private String part = "";

    /** Names what the next answers belong to. */
    void of(String name) {
        part = name;
    }

    void is(String call, long got, long want) {
        if (got != want) {
            wrong++;
            System.out.println(part + ": " + call + " answered " + got + ", due is " + want);
        }
    }

    /** A call that was FOUND: its answer and the kind of its FINDING. */
    void found(String call, SwitchYard yard, long got, int kind) {
        is(call, got, SwitchYard.FOUND);
        is("finding(0) behind " + call, yard.finding(0), kind);
    }

    /** The whole TRACE of the latest call. */
    void trace(SwitchYard yard, int... bodies) {
        for (int k = 0; k < bodies.length; k++) {
            is("trace(" + k + ")", yard.trace(k), bodies[k]);
        }
        is("trace(" + bodies.length + ")", yard.trace(bodies.length), SwitchYard.NONE);
    }

    void end() {
        System.out.println(wrong == 0 ? "all answers are as due" : wrong + " answers are not as due");
        if (wrong != 0) {
            System.exit(1);
        }
    }
}
