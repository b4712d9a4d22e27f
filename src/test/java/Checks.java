/** Counts and prints what is not as due. */
final class Checks {
    /** A call that answers a number; a boolean counts 1 or 0. */
    interface Call {
        long answer();
    }

    private int wrong = 0;
    private int done = 0;

    void due(String what, long got, long want) {
        done++;
        if (got != want) {
            wrong++;
            System.out.println(what + " answered " + got + ", due is " + want);
        }
    }

    void due(String what, boolean got, boolean want) {
        due(what, got ? 1 : 0, want ? 1 : 0);
    }

    void bounds(String what, Call call) {
        throwing(what, call, IndexOutOfBoundsException.class);
    }

    void state(String what, Call call) {
        throwing(what, call, IllegalStateException.class);
    }

    void argument(String what, Call call) {
        throwing(what, call, IllegalArgumentException.class);
    }

    private void throwing(String what, Call call, Class<?> kind) {
        done++;
        String got;
        try {
            got = "answered " + call.answer();
        } catch (RuntimeException thrown) {
            if (thrown.getClass() == kind) {
                return;
            }
            got = "threw " + thrown;
        }
        wrong++;
        System.out.println(what + " " + got + ", due is " + kind.getSimpleName());
    }

    void end() {
        System.out.println(done + " checks, " + wrong + " wrong");
        if (wrong > 0 || done == 0) {
            System.exit(1);
        }
    }
}
