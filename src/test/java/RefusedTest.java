/** The paragraph on what methods throw: what comes first, what changes nothing, what ends a run. */
public final class RefusedTest {
    private static final int NONE = LeastEdits.NONE;
    private static final Checks checks = new Checks();

    /** A call whose answer, if it has one, is told as a text. */
    private interface Act {
        Object on(LeastEdits x);
    }

    private static final class Named {
        final String name;
        final Act act;

        Named(String name, Act act) {
            this.name = name;
            this.act = act;
        }
    }

    private static Named named(String name, Act act) {
        return new Named(name, act);
    }

    public static void main(String[] args) {
        scenesAreAsTheyShouldBe();
        theFirstNamedIsThrown();
        throwingChangesNothing();
        changesEndARun();
        othersLeaveARun();
        theLatestRunCounts();
        checks.end();
    }

    private static String told(LeastEdits x, Act act) {
        try {
            return String.valueOf(act.on(x));
        } catch (RuntimeException thrown) {
            return thrown.getClass().getSimpleName();
        }
    }

    /**
     * Inputs 2, 4; old 6 = 2 & 3, old 8 = 2 & 4, old 10 = 6 & 8, of which 8 is kept; asked 12 = 2 & 5;
     * two outputs, three spares; one edit was made, and another one is run.
     */
    private static LeastEdits small() {
        LeastEdits x = Designs.withInputs(2);
        x.old(2, 3);
        x.old(2, 4);
        x.old(6, 8);
        x.asked(2, 5);
        x.output(6, 4);
        x.run(2);
        x.make();
        x.output(10, 12);
        x.keep(4, true);
        x.place(3, 1, 2);
        x.place(5, -3, 4);
        x.spare(3, 3);
        x.spare(-3, 5);
        x.spare(1, 1);
        x.run(2);
        return x;
    }

    /** As small, but what was made is undone, and two edits are run. */
    private static LeastEdits smallOfTwo() {
        LeastEdits x = small();
        x.undo();
        x.run(2);
        return x;
    }

    /** All is full; 20 were made; a run of no edits. */
    private static LeastEdits full() {
        LeastEdits x = Designs.full();
        Designs.makeNothing(x, 20);
        x.keep(4, true);
        x.place(3, 1, 2);
        x.place(5, -3, 4);
        x.run(2);
        return x;
    }

    /** No ANDs; a run of no edits. */
    private static LeastEdits bare() {
        LeastEdits x = Designs.withInputs(1);
        x.spare(0, 0);
        x.run(2);
        return x;
    }

    private static void tell(StringBuilder all, LeastEdits x, Act act) {
        all.append(told(x, act)).append(' ');
    }

    private static void tellRun(StringBuilder all, LeastEdits x) {
        for (int k = 0; k <= 2; k++) {
            int of = k;
            for (int what = 0; what <= 2; what++) {
                int wanted = what;
                tell(all, x, y -> y.edit(of, wanted));
            }
            tell(all, x, y -> y.used(of));
        }
        tell(all, x, LeastEdits::length);
    }

    private static void tellDesigns(StringBuilder all, LeastEdits x) {
        for (int what = 0; what <= 7; what++) {
            int wanted = what;
            tell(all, x, y -> y.count(wanted));
        }
        tell(all, x, LeastEdits::differing);
        for (int k = 0; k <= 4; k++) {
            int output = k;
            tell(all, x, y -> y.witness(output));
        }
        int nodes = x.count(0);
        for (int n = 0; n < nodes; n++) {
            int node = n;
            for (int s = 0; s < 4; s++) {
                int assignment = s;
                tell(all, x, y -> y.value(2 * node, assignment));
            }
            tell(all, x, y -> y.matched(2 * node));
        }
        for (int n = 1; n <= 11; n++) {
            int node = n;
            tell(all, x, y -> y.literal(node, 0));
            tell(all, x, y -> y.literal(node, 1));
        }
    }

    /** What is run, what is held, and then by changes that show it what is kept, placed and made. */
    private static String allOf(LeastEdits x) {
        StringBuilder all = new StringBuilder();
        tellRun(all, x);
        tellDesigns(all, x);
        tell(all, x, LeastEdits::make);
        tell(all, x, y -> y.place(3, 1, 2));
        tell(all, x, y -> y.place(4, 0, 0));
        tell(all, x, y -> y.place(5, -3, 4));
        for (int n = 3; n <= 5; n++) {
            int node = n;
            tell(all, x, y -> y.keep(node, true));
            tell(all, x, y -> y.keep(node, false));
        }
        for (int k = 0; k < 3; k++) {
            tell(all, x, y -> y.run(2));
            tellRun(all, x);
            tell(all, x, LeastEdits::undo);
        }
        tell(all, x, y -> y.literal(3, 0));
        tell(all, x, y -> y.literal(3, 1));
        tell(all, x, y -> y.spare(0, 0));
        tell(all, x, y -> y.output(2, 2));
        tell(all, x, y -> y.asked(2, 2));
        tell(all, x, y -> y.old(2, 2));
        tell(all, x, LeastEdits::input);
        return all.toString();
    }

    private static void scenesAreAsTheyShouldBe() {
        checks.due("edits of small", small().run(2), 1);
        checks.due("edits of small of two", smallOfTwo().run(2), 2);
        checks.due("edits of full", full().run(2), 0);
        checks.due("edits of bare", bare().run(2), 0);
    }

    private static void theFirstNamedIsThrown() {
        checks.sentence("Methods throw what their comments name, the one named first when several would do");
        LeastEdits x = full();
        checks.bounds("old: no literal, full, asked", () -> x.old(-1, 22));
        checks.bounds("old: asked, full, no literal", () -> x.old(22, 70));
        checks.state("old: full, asked", () -> x.old(22, 2));
        checks.bounds("asked: no literal, full, old", () -> x.asked(-1, 6));
        checks.bounds("asked: old, full, no literal", () -> x.asked(6, 70));
        checks.state("asked: full, old", () -> x.asked(2, 6));
        checks.bounds("output: no literal, full, old", () -> x.output(-1, 6));
        checks.bounds("output: asked, full, no literal", () -> x.output(22, 70));
        checks.state("output: full, asked and old", () -> x.output(22, 6));
        checks.bounds("place: no old AND, too far", () -> x.place(2, 1001, 0) ? 1 : 0);
        checks.state("spare: full, too far", () -> x.spare(0, 1001));
        LeastEdits y = small();
        checks.bounds("old: no literal, asked", () -> y.old(14, 12));
        checks.bounds("old: asked, no literal", () -> y.old(12, 14));
        checks.bounds("asked: no literal, old", () -> y.asked(14, 6));
        checks.bounds("asked: old, no literal", () -> y.asked(6, 14));
        checks.bounds("output: no literal, old", () -> y.output(14, 6));
        checks.bounds("output: asked, no literal", () -> y.output(12, 14));
        LeastEdits z = new LeastEdits();
        checks.bounds("edit: no what, nothing run, no edit", () -> z.edit(7, 3));
        checks.state("edit: nothing run, no edit", () -> z.edit(7, 2));
        checks.state("used: nothing run, no edit", () -> z.used(7));
        Designs.makeNothing(z, 20);
        checks.state("make: nothing run, 20 made", () -> z.make());
    }

    private static final Named[] REFUSED_ALWAYS = {
        named("old of no literal", x -> x.old(-1, 2)),
        named("old of no second literal", x -> x.old(2, 76)),
        named("old of an asked one", x -> x.old(2, 2 * x.count(0) - 2)),
        named("asked of no literal", x -> x.asked(76, 2)),
        named("asked of no second literal", x -> x.asked(2, -1)),
        named("asked of an old one", x -> x.asked(2, 6)),
        named("output of no literal", x -> x.output(76, 2)),
        named("output due no literal", x -> x.output(2, 76)),
        named("output of an asked one", x -> x.output(2 * x.count(0) - 2, 2)),
        named("output due an old one", x -> x.output(2, 6)),
        named("input behind an AND", x -> x.input()),
        named("value of no literal", x -> x.value(76, 0)),
        named("witness of no output", x -> x.witness(4)),
        named("matched of no literal", x -> x.matched(-1)),
        named("keep of an input", x -> x.keep(1, true)),
        named("keep of an asked one", x -> x.keep(x.count(0) - 1, true)),
        named("keep of no node", x -> x.keep(38, false)),
        named("place of an input", x -> x.place(1, 5, 5)),
        named("place of no node", x -> x.place(-1, 5, 5)),
        named("place, x too large", x -> x.place(3, 1001, 7)),
        named("place, x too small", x -> x.place(3, -1001, 7)),
        named("place, y too large", x -> x.place(3, 7, 1001)),
        named("place, y too small", x -> x.place(3, 7, -1001)),
        named("spare, x too large", x -> x.spare(1001, 7)),
        named("spare, y too small", x -> x.spare(7, -1001)),
        named("run of fewer than none", x -> x.run(-1)),
        named("run of more than two", x -> x.run(3)),
        named("edit of no what", x -> x.edit(0, 3)),
        named("edit of no edit", x -> x.edit(2, 0)),
        named("used of no edit", x -> x.used(2)),
        named("literal of an input", x -> x.literal(1, 0)),
        named("literal of no which", x -> x.literal(3, 2)),
        named("count of no what", x -> x.count(8)),
    };

    private static final Named[] REFUSED_WHEN_FULL = {
        named("a ninth old AND", x -> x.old(2, 4)),
        named("a 25th asked AND", x -> x.asked(2, 4)),
        named("a fifth output", x -> x.output(6, 3)),
        named("a seventh spare", x -> x.spare(0, 0)),
        named("a 21st making", x -> x.make()),
    };

    private static void refusedChangesNothing(String scene, Named call, LeastEdits x, String due) {
        String answer = told(x, call.act);
        checks.due(scene + ": " + call.name + " answers " + answer, answer.endsWith("Exception"), true);
        checks.text(scene + ": all behind " + call.name, allOf(x), due);
    }

    private static void throwingChangesNothing() {
        checks.sentence("A call that throws changes nothing");
        String ofSmall = allOf(small());
        String ofTwo = allOf(smallOfTwo());
        String ofFull = allOf(full());
        for (Named call : REFUSED_ALWAYS) {
            refusedChangesNothing("small", call, small(), ofSmall);
            refusedChangesNothing("small of two", call, smallOfTwo(), ofTwo);
            refusedChangesNothing("full", call, full(), ofFull);
        }
        for (Named call : REFUSED_WHEN_FULL) {
            refusedChangesNothing("full", call, full(), ofFull);
        }
        LeastEdits five = Designs.withInputs(5);
        five.output(10, 10);
        five.run(0);
        checks.state("a sixth input", () -> five.input());
        checks.due("leaves the run", five.length(), 0);
        checks.due("leaves the nodes", five.old(2, 10), 12);
        LeastEdits nothing = new LeastEdits();
        checks.state("nothing is run", () -> nothing.make());
        checks.due("leaves nothing to undo", nothing.undo(), false);
        checks.due("leaves nothing made", nothing.count(7), 0);
    }

    private static final Named[] CHANGES = {
        named("old", x -> x.old(2, 2)),
        named("asked", x -> x.asked(2, 2)),
        named("output", x -> x.output(2, 2)),
        named("keep, true", x -> x.keep(3, true)),
        named("no longer keep", x -> x.keep(4, false)),
        named("another x", x -> x.place(5, -4, 4)),
        named("another y", x -> x.place(5, -3, 5)),
        named("the first other place", x -> x.place(4, 0, 1)),
        named("spare", x -> x.spare(900, 900)),
        named("make", x -> x.make()),
        named("undo", x -> x.undo()),
        named("run that finds nothing", x -> x.run(0)),
    };

    private static void ended(String what, LeastEdits x) {
        checks.state(what + ": edit", () -> x.edit(0, 0));
        checks.state(what + ": used", () -> x.used(0));
        checks.state(what + ": length", () -> x.length());
        checks.state(what + ": make", () -> x.make());
    }

    private static void changesEndARun() {
        checks.sentence("NOTHING IS RUN: there was no run since something was changed, or it found nothing");
        ended("a new object", new LeastEdits());
        ended("an object that is told, but not run", Designs.oneEditAway());
        for (Named change : CHANGES) {
            LeastEdits x = small();
            checks.due("before " + change.name, x.edit(0, 0), 5);
            change.act.on(x);
            ended(change.name, x);
            LeastEdits none = new LeastEdits();
            none.input();
            none.old(2, 2);
            none.old(2, 2);
            none.old(2, 2);
            none.old(2, 2);
            none.keep(4, true);
            none.place(5, -3, 4);
            Designs.makeNothing(none, 1);
            none.output(2, 2);
            none.run(2);
            checks.due("no edits before " + change.name, none.length(), 0);
            if (!change.name.equals("run that finds nothing")) {
                change.act.on(none);
                ended("behind a run of no edits, " + change.name, none);
            }
        }
        LeastEdits input = bare();
        input.input();
        ended("input", input);
        LeastEdits keptOff = small();
        keptOff.keep(3, true);
        keptOff.keep(3, false);
        ended("a change that is taken back", keptOff);
        LeastEdits moved = small();
        moved.place(5, 0, 0);
        moved.place(5, -3, 4);
        ended("a place that is taken back", moved);
        LeastEdits empty = small();
        empty.clear();
        ended("clear", empty);
        LeastEdits asNew = new LeastEdits();
        asNew.run(0);
        asNew.clear();
        ended("clear of an object that is as new", asNew);
    }

    private static final Named[] NO_CHANGES = {
        named("kept again", x -> x.keep(4, true)),
        named("not kept again", x -> x.keep(3, false)),
        named("the same place", x -> x.place(5, -3, 4)),
        named("the place at first", x -> x.place(4, 0, 0)),
        named("value", x -> x.value(2, 1)),
        named("differing", x -> x.differing()),
        named("witness", x -> x.witness(1)),
        named("matched", x -> x.matched(12)),
        named("edit", x -> x.edit(0, 1)),
        named("used", x -> x.used(0)),
        named("length", x -> x.length()),
        named("literal", x -> x.literal(5, 1)),
        named("count", x -> x.count(7)),
        named("the same run", x -> x.run(2)),
    };

    private static void othersLeaveARun() {
        checks.sentence("what answers false changed nothing");
        String ofSmall = allOf(small());
        String ofTwo = allOf(smallOfTwo());
        for (Named call : NO_CHANGES) {
            LeastEdits x = small();
            call.act.on(x);
            checks.text("all behind " + call.name, allOf(x), ofSmall);
            LeastEdits y = smallOfTwo();
            call.act.on(y);
            checks.text("all of two behind " + call.name, allOf(y), ofTwo);
        }
        LeastEdits undone = Designs.oneEditAway();
        undone.run(2);
        checks.due("nothing was made", undone.undo(), false);
        checks.edit("the run stands", undone, 0, 4, 1, 2);
        checks.due("and is made", undone.make(), 1);
    }

    private static void theLatestRunCounts() {
        checks.sentence("the latest run");
        LeastEdits x = Designs.twoEditsAway();
        x.run(2);
        checks.due("two edits", x.edit(1, 0), 4);
        checks.due("one is too few", x.run(1), NONE);
        ended("the latest found nothing, though the one before did", x);
        checks.due("two edits again", x.run(2), 2);
        checks.edit("as before", x, 0, 3, 1, 1);
        checks.edit("as before", x, 1, 4, 1, 4);
        x.keep(3, true);
        checks.due("with one kept", x.run(2), NONE);
        ended("the latest found nothing", x);
        x.keep(3, false);
        ended("not run since", x);
    }
}
