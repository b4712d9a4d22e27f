/** Counts and prints what is not as due. */
final class Checks {
    /** A call that answers a number; a boolean counts 1 or 0. */
    interface Call {
        long answer();
    }

    private int wrong = 0;
    private int done = 0;
    private int sentences = 0;
    private String sentence = "";

    /** The sentence of the document that the checks from here on hold the program to. */
    void sentence(String text) {
        sentences++;
        sentence = text;
    }

    private void report(String line) {
        wrong++;
        System.out.println((sentence.isEmpty() ? "" : "[" + sentence + "] ") + line);
    }

    void due(String what, long got, long want) {
        done++;
        if (got != want) {
            report(what + " answered " + got + ", due is " + want);
        }
    }

    void due(String what, boolean got, boolean want) {
        due(what, got ? 1 : 0, want ? 1 : 0);
    }

    void text(String what, String got, String want) {
        done++;
        if (!got.equals(want)) {
            report(what + " answered\n  " + got + ", due is\n  " + want);
        }
    }

    void edit(String what, LeastEdits x, int k, int node, int first, int second) {
        due(what + ": node of edit " + k, x.edit(k, 0), node);
        due(what + ": first literal of edit " + k, x.edit(k, 1), first);
        due(what + ": second literal of edit " + k, x.edit(k, 2), second);
    }

    void bounds(String what, Call call) {
        throwing(what, call, IndexOutOfBoundsException.class);
    }

    void state(String what, Call call) {
        throwing(what, call, IllegalStateException.class);
    }

    void argument(String what, Call call) {
        throwing(what, call, IllegalArgumentException.class);
    }

    private void throwing(String what, Call call, Class<?> kind) {
        done++;
        String got;
        try {
            got = "answered " + call.answer();
        } catch (RuntimeException thrown) {
            if (thrown.getClass() == kind) {
                return;
            }
            got = "threw " + thrown;
        }
        report(what + " " + got + ", due is " + kind.getSimpleName());
    }

    void end() {
        System.out.println((sentences == 0 ? "" : sentences + " sentences, ")
            + done + " checks, " + wrong + " wrong");
        if (wrong > 0 || done == 0) {
            System.exit(1);
        }
    }
}
