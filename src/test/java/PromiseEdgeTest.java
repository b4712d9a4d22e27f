/** The edges that promises 1 to 21 name, a method for each sentence that names one. */
public final class PromiseEdgeTest {
    private static final int NONE = LeastEdits.NONE;
    private static final int LEAST = Integer.MIN_VALUE;
    private static final int GREATEST = Integer.MAX_VALUE;
    private static final Checks checks = new Checks();

    public static void main(String[] args) {
        newObject();
        inputLiterals();
        inputFull();
        oldOfNoLiteral();
        oldFull();
        oldOfAskedOnes();
        askedOfNoLiteral();
        askedFull();
        askedOfOldOnes();
        outputOfNoLiteral();
        outputsFull();
        outputOfTheOtherDesign();
        valueBeyondTheInputs();
        valueOfNoLiteral();
        differingEmptyAndFull();
        witnessLeast();
        witnessOfNoOutput();
        matchedLeast();
        matchedOfNoLiteral();
        keepAnswers();
        keepOfNoOldAnd();
        placeAnswers();
        placeOfNoOldAnd();
        placeTooFar();
        spareFull();
        spareTooFar();
        runNone();
        runTooManyOrTooFew();
        editOfNoWhat();
        editOfNoEdit();
        usedOfNoEdit();
        lengthNone();
        makeHowMany();
        makeFull();
        undoAnswers();
        undoTakesBack();
        undoIsOneMakingEach();
        literalNow();
        literalOfNoOldAnd();
        countEmptyAndFull();
        countOfNoWhat();
        clearOfAll();
        clearIsAsNew();
        clearLeavesNothingBehind();
        checks.end();
    }

    private static long one(boolean answer) {
        return answer ? 1 : 0;
    }

    /** What there is never: too small, just too large, and what would wrap around. */
    private static int[] beyond(int end) {
        return new int[] {-1, -2, LEAST, LEAST + 1, LEAST + 2, end, end + 1, GREATEST, GREATEST - 1};
    }

    private static int[] noLiterals(LeastEdits x) {
        return beyond(2 * x.count(0));
    }

    /** One of each: FALSE, input 2, old 4 = 2 & 2, asked 6 = 3 & 3. */
    private static LeastEdits oneOfEach() {
        LeastEdits x = Designs.withInputs(1);
        x.old(2, 2);
        x.asked(3, 3);
        return x;
    }

    /** Nodes that are no old ANDs of oneOfEach: FALSE, an input, an asked one, none at all. */
    private static int[] noOldAnds() {
        return new int[] {0, 1, 3, 4, 5, -1, LEAST, GREATEST, LEAST + 2, 1 << 30, (1 << 30) + 2};
    }

    /** Nodes 1 .. 37: 5 inputs, 8 old ANDs, 24 asked ones. */
    private static LeastEdits mostNodes() {
        LeastEdits x = Designs.withInputs(5);
        for (int k = 0; k < 8; k++) {
            x.old(2, 4);
        }
        for (int k = 0; k < 24; k++) {
            x.asked(2, 4);
        }
        return x;
    }

    private static void newObject() {
        checks.sentence("1: Node 0 alone");
        LeastEdits x = new LeastEdits();
        checks.due("nodes", x.count(0), 1);
        for (int what = 1; what <= 7; what++) {
            checks.due("count(" + what + ")", x.count(what), 0);
        }
        checks.due("nothing differs", x.differing(), 0);
        checks.due("FALSE matches itself", x.matched(0), 0);
        checks.due("TRUE matches itself", x.matched(1), 1);
        checks.bounds("no outputs", () -> x.witness(0));
        checks.bounds("FALSE has no literals", () -> x.literal(0, 0));
        checks.state("nothing is run", () -> x.edit(0, 0));
        checks.state("nothing is run", () -> x.used(0));
        checks.state("nothing is run", () -> x.length());
        checks.state("nothing is run", () -> x.make());
        checks.due("nothing was made", x.undo(), false);
        checks.due("nothing is to be edited", x.run(0), 0);
        LeastEdits other = new LeastEdits();
        checks.state("another object has no run of it", () -> other.length());
        x.input();
        checks.due("another object has no inputs of it", other.count(1), 0);
    }

    private static void inputLiterals() {
        checks.sentence("2: A new input: its literal");
        LeastEdits x = new LeastEdits();
        for (int k = 1; k <= 5; k++) {
            checks.due("input " + k, x.input(), 2 * k);
        }
        LeastEdits later = new LeastEdits();
        later.output(0, 1);
        later.spare(1, 1);
        later.run(2);
        later.run(0);
        checks.due("an input behind all but ANDs", later.input(), 2);
        later.output(2, 3);
        checks.due("an input behind an output of an input", later.input(), 4);
    }

    private static void inputFull() {
        checks.sentence("2: there are 5, or an AND");
        LeastEdits x = Designs.withInputs(5);
        checks.state("a sixth input", () -> x.input());
        x.old(2, 4);
        checks.state("a sixth input behind an AND", () -> x.input());
        for (int inputs = 0; inputs <= 4; inputs++) {
            LeastEdits old = Designs.withInputs(inputs);
            old.old(0, 0);
            checks.state("behind an old AND and " + inputs + " inputs", () -> old.input());
            LeastEdits asked = Designs.withInputs(inputs);
            asked.asked(0, 0);
            checks.state("behind an asked AND and " + inputs + " inputs", () -> asked.input());
            checks.due("inputs", asked.count(1), inputs);
        }
    }

    private static void oldOfNoLiteral() {
        checks.sentence("3: IndexOutOfBoundsException");
        LeastEdits x = oneOfEach();
        for (int none : noLiterals(x)) {
            checks.bounds("old(" + none + ", 2)", () -> x.old(none, 2));
            checks.bounds("old(2, " + none + ")", () -> x.old(2, none));
            checks.bounds("before the asked one, old(6, " + none + ")", () -> x.old(6, none));
            checks.bounds("before the asked one, old(" + none + ", 6)", () -> x.old(none, 6));
        }
        checks.due("the greatest literal of the old design", x.old(5, 5), 8);
        LeastEdits full = Designs.full();
        for (int none : noLiterals(full)) {
            checks.bounds("when there are 8, old(" + none + ", 2)", () -> full.old(none, 2));
            checks.bounds("when there are 8, old(2, " + none + ")", () -> full.old(2, none));
        }
    }

    private static void oldFull() {
        checks.sentence("3: there are 8");
        LeastEdits x = Designs.withInputs(5);
        for (int k = 0; k < 8; k++) {
            checks.due("old AND " + k, x.old(2, 3), 12 + 2 * k);
        }
        checks.state("a ninth", () -> x.old(2, 3));
        x.asked(2, 4);
        checks.state("a ninth before the asked one", () -> x.old(28, 2));
        checks.state("a ninth before the asked one", () -> x.old(2, 28));
        checks.due("old ANDs", x.count(2), 8);
    }

    private static void oldOfAskedOnes() {
        checks.sentence("3: a literal is of an asked one");
        LeastEdits x = oneOfEach();
        for (int asked = 6; asked <= 7; asked++) {
            int literal = asked;
            checks.argument("old(" + asked + ", 2)", () -> x.old(literal, 2));
            checks.argument("old(2, " + asked + ")", () -> x.old(2, literal));
            checks.argument("old of it twice", () -> x.old(literal, literal));
        }
        checks.due("FALSE, which is of both", x.old(0, 1), 8);
    }

    private static void askedOfNoLiteral() {
        checks.sentence("4: IndexOutOfBoundsException");
        LeastEdits x = oneOfEach();
        for (int none : noLiterals(x)) {
            checks.bounds("asked(" + none + ", 2)", () -> x.asked(none, 2));
            checks.bounds("asked(2, " + none + ")", () -> x.asked(2, none));
            checks.bounds("before the old one, asked(4, " + none + ")", () -> x.asked(4, none));
            checks.bounds("before the old one, asked(" + none + ", 4)", () -> x.asked(none, 4));
        }
        checks.due("the greatest literal", x.asked(7, 7), 8);
        LeastEdits full = Designs.full();
        for (int none : noLiterals(full)) {
            checks.bounds("when there are 24, asked(" + none + ", 2)", () -> full.asked(none, 2));
            checks.bounds("when there are 24, asked(2, " + none + ")", () -> full.asked(2, none));
        }
    }

    private static void askedFull() {
        checks.sentence("4: there are 24");
        LeastEdits x = Designs.withInputs(5);
        for (int k = 0; k < 24; k++) {
            checks.due("asked AND " + k, x.asked(2, 3), 12 + 2 * k);
        }
        checks.state("a 25th", () -> x.asked(2, 3));
        x.old(2, 4);
        checks.state("a 25th before the old one", () -> x.asked(60, 2));
        checks.state("a 25th before the old one", () -> x.asked(2, 60));
        checks.due("asked ANDs", x.count(3), 24);
    }

    private static void askedOfOldOnes() {
        checks.sentence("4: a literal is of an old one");
        LeastEdits x = oneOfEach();
        for (int old = 4; old <= 5; old++) {
            int literal = old;
            checks.argument("asked(" + old + ", 2)", () -> x.asked(literal, 2));
            checks.argument("asked(2, " + old + ")", () -> x.asked(2, literal));
            checks.argument("asked of it twice", () -> x.asked(literal, literal));
        }
        checks.due("FALSE, which is of both", x.asked(0, 1), 8);
    }

    private static void outputOfNoLiteral() {
        checks.sentence("5: IndexOutOfBoundsException");
        LeastEdits x = oneOfEach();
        for (int none : noLiterals(x)) {
            checks.bounds("output(" + none + ", 2)", () -> x.output(none, 2));
            checks.bounds("output(2, " + none + ")", () -> x.output(2, none));
            checks.bounds("before the asked one, output(6, " + none + ")", () -> x.output(6, none));
            checks.bounds("before the old one, output(" + none + ", 4)", () -> x.output(none, 4));
        }
        checks.due("the greatest literals", x.output(5, 7), 0);
        LeastEdits full = Designs.full();
        for (int none : noLiterals(full)) {
            checks.bounds("when there are 4, output(" + none + ", 2)", () -> full.output(none, 2));
            checks.bounds("when there are 4, output(2, " + none + ")", () -> full.output(2, none));
        }
    }

    private static void outputsFull() {
        checks.sentence("5: there are 4");
        LeastEdits x = oneOfEach();
        for (int k = 0; k < 4; k++) {
            checks.due("output " + k, x.output(k, k), k);
        }
        checks.state("a fifth", () -> x.output(4, 6));
        checks.state("a fifth before the asked one", () -> x.output(6, 6));
        checks.state("a fifth before the old one", () -> x.output(4, 4));
        checks.due("outputs", x.count(4), 4);
    }

    private static void outputOfTheOtherDesign() {
        checks.sentence("5: mine is of an asked AND, or due of an old one");
        LeastEdits x = oneOfEach();
        for (int turned = 0; turned <= 1; turned++) {
            int mine = 4 + turned;
            int due = 6 + turned;
            checks.argument("mine an asked one", () -> x.output(due, 2));
            checks.argument("due an old one", () -> x.output(2, mine));
            checks.argument("both the wrong way round", () -> x.output(due, mine));
            checks.argument("an asked one twice", () -> x.output(due, due));
            checks.argument("an old one twice", () -> x.output(mine, mine));
        }
        checks.due("no outputs", x.count(4), 0);
        checks.due("inputs and FALSE are of both", x.output(0, 3), 0);
    }

    private static void valueBeyondTheInputs() {
        checks.sentence("6: bits of inputs that there are not do not count");
        for (int inputs = 0; inputs <= 5; inputs++) {
            LeastEdits x = Designs.withInputs(inputs);
            int old = inputs == 0 ? x.old(1, 1) : x.old(2 * inputs, 2 * inputs);
            for (int high = inputs; high < 32; high++) {
                int last = (1 << inputs) - 1;
                int without = inputs == 0 ? 1 : 0;
                checks.due(inputs + " inputs, bit " + high, x.value(old, 1 << high), without);
                checks.due(inputs + " inputs, bit " + high, x.value(old, 1 << high | last), 1);
            }
        }
        LeastEdits x = Designs.withInputs(5);
        x.old(2, 10);
        for (int s : new int[] {-1, GREATEST, 63, -15, 17 + 32 * 5}) {
            checks.due("1 in " + s, x.value(12, s), 1);
        }
        for (int s : new int[] {LEAST, LEAST + 1, LEAST + 16, -2, -17, 32, 1 << 30, GREATEST - 1}) {
            checks.due("0 in " + s, x.value(12, s), 0);
        }
    }

    private static void valueOfNoLiteral() {
        checks.sentence("6: IndexOutOfBoundsException");
        LeastEdits x = oneOfEach();
        for (int none : noLiterals(x)) {
            checks.bounds("value(" + none + ", 0)", () -> x.value(none, 0));
            checks.bounds("value(" + none + ", -1)", () -> x.value(none, -1));
        }
        LeastEdits bare = new LeastEdits();
        for (int none : noLiterals(bare)) {
            checks.bounds("of a new object: " + none, () -> bare.value(none, 0));
        }
    }

    private static void differingEmptyAndFull() {
        checks.sentence("7: How many outputs differ");
        LeastEdits none = new LeastEdits();
        none.input();
        checks.due("no outputs", none.differing(), 0);
        LeastEdits x = oneOfEach();
        for (int k = 1; k <= 4; k++) {
            x.output(4, 6);
            checks.due("all of " + k + " outputs", x.differing(), k);
        }
        LeastEdits mixed = oneOfEach();
        mixed.output(4, 7);
        mixed.output(5, 6);
        checks.due("turned on one side each", mixed.differing(), 0);
        mixed.output(5, 7);
        mixed.output(5, 3);
        checks.due("turned on both sides", mixed.differing(), 1);
        LeastEdits bare = new LeastEdits();
        bare.output(0, 0);
        bare.output(0, 1);
        bare.output(1, 0);
        bare.output(1, 1);
        checks.due("without inputs", bare.differing(), 2);
    }

    private static void witnessLeast() {
        checks.sentence("8: The least assignment in which an output differs; NONE");
        LeastEdits x = Designs.withInputs(5);
        x.old(2, 10);
        x.asked(2, 4);
        x.output(12, 10);
        x.output(12, 14);
        x.output(13, 14);
        x.output(10, 10);
        checks.due("where the last input alone is 1", x.witness(0), 16);
        checks.due("where the first two are 1, not the last", x.witness(1), 3);
        checks.due("turned on one side: from the first on", x.witness(2), 0);
        checks.due("nowhere", x.witness(3), NONE);
        LeastEdits bare = new LeastEdits();
        bare.output(0, 0);
        bare.output(0, 1);
        checks.due("without inputs, nowhere", bare.witness(0), NONE);
        checks.due("without inputs", bare.witness(1), 0);
        LeastEdits one = Designs.withInputs(1);
        one.output(2, 0);
        checks.due("the last of two", one.witness(0), 1);
    }

    private static void witnessOfNoOutput() {
        checks.sentence("8: IndexOutOfBoundsException");
        LeastEdits x = oneOfEach();
        for (int outputs = 0; outputs <= 4; outputs++) {
            for (int none : beyond(outputs)) {
                checks.bounds(outputs + " outputs: " + none, () -> x.witness(none));
            }
            if (outputs < 4) {
                x.output(0, 1);
                checks.due("the last output", x.witness(outputs), 0);
            }
        }
    }

    private static void matchedLeast() {
        checks.sentence("9: The least literal of FALSE, an input or an old AND that is the same; NONE");
        LeastEdits x = Designs.withInputs(2);
        x.asked(2, 4);
        checks.due("no old ANDs: none", x.matched(6), NONE);
        checks.due("no old ANDs: none, turned", x.matched(7), NONE);
        x.old(4, 2);
        x.old(2, 4);
        checks.due("the least of two old ANDs", x.matched(6), 8);
        checks.due("the least of two old ANDs, turned", x.matched(7), 9);
        checks.due("an old AND has the least, not itself", x.matched(10), 8);
        x.old(9, 9);
        checks.due("one that is another turned", x.matched(12), 9);
        checks.due("one that is another turned, turned", x.matched(13), 8);
        x.old(2, 2);
        checks.due("an input's, not itself", x.matched(14), 2);
        x.asked(5, 1);
        checks.due("an input turned", x.matched(16), 5);
        x.asked(2, 3);
        checks.due("FALSE", x.matched(18), 0);
        checks.due("TRUE", x.matched(19), 1);
        LeastEdits bare = new LeastEdits();
        bare.asked(1, 1);
        checks.due("without inputs", bare.matched(2), 1);
    }

    private static void matchedOfNoLiteral() {
        checks.sentence("9: IndexOutOfBoundsException");
        LeastEdits x = oneOfEach();
        for (int none : noLiterals(x)) {
            checks.bounds("matched(" + none + ")", () -> x.matched(none));
        }
    }

    private static void keepAnswers() {
        checks.sentence("10: An old AND is kept, or is not: whether it was not so before");
        LeastEdits x = oneOfEach();
        checks.due("not kept at first: not", x.keep(2, false), false);
        checks.due("not kept at first: kept", x.keep(2, true), true);
        checks.due("kept: kept", x.keep(2, true), false);
        checks.due("kept: not", x.keep(2, false), true);
        checks.due("not kept: not", x.keep(2, false), false);
        LeastEdits full = Designs.full();
        for (int node = 3; node <= 10; node++) {
            checks.due("kept", full.keep(node, true), true);
            checks.due("kept ones", full.count(6), node - 2);
        }
        for (int node = 3; node <= 10; node++) {
            checks.due("not kept", full.keep(node, false), true);
            checks.due("kept ones", full.count(6), 10 - node);
        }
    }

    private static void keepOfNoOldAnd() {
        checks.sentence("10: also if it is no old AND");
        LeastEdits x = oneOfEach();
        for (int none : noOldAnds()) {
            checks.bounds("keep(" + none + ", true)", () -> one(x.keep(none, true)));
            checks.bounds("keep(" + none + ", false)", () -> one(x.keep(none, false)));
        }
        checks.due("kept ones", x.count(6), 0);
        LeastEdits most = mostNodes();
        checks.bounds("the last node is an asked one", () -> one(most.keep(37, true)));
        checks.bounds("behind the last node", () -> one(most.keep(38, true)));
    }

    private static void placeAnswers() {
        checks.sentence("11: An old AND's place: whether it is another one than before");
        LeastEdits x = oneOfEach();
        checks.due("0, 0 at first", x.place(2, 0, 0), false);
        checks.due("x is another one", x.place(2, -1, 0), true);
        checks.due("y is another one", x.place(2, -1, 1), true);
        checks.due("both are other ones", x.place(2, 1, -1), true);
        checks.due("the same", x.place(2, 1, -1), false);
        checks.due("the other way round", x.place(2, -1, 1), true);
        checks.due("back", x.place(2, 0, 0), true);
        for (int sx = -1000; sx <= 1000; sx += 2000) {
            for (int sy = -1000; sy <= 1000; sy += 2000) {
                checks.due("a corner", x.place(2, sx, sy), true);
                checks.due("the same corner", x.place(2, sx, sy), false);
            }
        }
    }

    private static void placeOfNoOldAnd() {
        checks.sentence("11: IndexOutOfBoundsException: also if it is no old AND");
        LeastEdits x = oneOfEach();
        for (int none : noOldAnds()) {
            checks.bounds("place of " + none, () -> one(x.place(none, 0, 0)));
            checks.bounds("before too far, place of " + none, () -> one(x.place(none, 1001, 0)));
            checks.bounds("before too far, place of " + none, () -> one(x.place(none, 0, -1001)));
        }
        LeastEdits most = mostNodes();
        checks.bounds("behind the last node", () -> one(most.place(38, 0, 0)));
    }

    /** Too small and too large, also such as an int would wrap into -1000 .. 1000. */
    private static long[] tooFar() {
        return new long[] {1001, -1001, Long.MAX_VALUE, Long.MIN_VALUE, 1L << 32, -(1L << 32),
            (1L << 32) + 5, GREATEST, LEAST, 1L << 16, (1L << 32) - 1};
    }

    private static void placeTooFar() {
        checks.sentence("11: x or y is not -1000 .. 1000");
        LeastEdits x = oneOfEach();
        for (long far : tooFar()) {
            checks.argument("x is " + far, () -> one(x.place(2, far, 0)));
            checks.argument("y is " + far, () -> one(x.place(2, 0, far)));
            checks.argument("both are " + far, () -> one(x.place(2, far, far)));
        }
        checks.due("still at 0, 0", x.place(2, 0, 0), false);
    }

    private static void spareFull() {
        checks.sentence("12: A new spare: its number; there are 6");
        LeastEdits x = new LeastEdits();
        for (int k = 0; k < 6; k++) {
            checks.due("spare " + k, x.spare(k, -k), k);
        }
        checks.state("a seventh", () -> x.spare(0, 0));
        for (long far : tooFar()) {
            checks.state("a seventh before too far " + far, () -> x.spare(far, 0));
            checks.state("a seventh before too far " + far, () -> x.spare(0, far));
        }
        checks.due("spares", x.count(5), 6);
        LeastEdits old = oneOfEach();
        checks.due("a spare behind ANDs", old.spare(0, 0), 0);
    }

    private static void spareTooFar() {
        checks.sentence("12: x or y is not -1000 .. 1000");
        LeastEdits x = new LeastEdits();
        for (long far : tooFar()) {
            checks.argument("x is " + far, () -> x.spare(far, 0));
            checks.argument("y is " + far, () -> x.spare(0, far));
        }
        checks.due("no spares", x.count(5), 0);
        checks.due("a corner", x.spare(1000, 1000), 0);
        checks.due("another corner", x.spare(-1000, -1000), 1);
    }

    private static void runNone() {
        checks.sentence("13: how many edits the first right set has; NONE if there is none of so many");
        LeastEdits x = Designs.twoEditsAway();
        checks.due("of none", x.run(0), NONE);
        checks.due("of one", x.run(1), NONE);
        checks.due("of two", x.run(2), 2);
        x.make();
        checks.due("none is needed, of none", x.run(0), 0);
        checks.due("none is needed, of two", x.run(2), 0);
        LeastEdits empty = new LeastEdits();
        for (int most = 0; most <= 2; most++) {
            checks.due("no outputs", empty.run(most), 0);
        }
        empty.output(0, 1);
        for (int most = 0; most <= 2; most++) {
            checks.due("no ANDs", empty.run(most), NONE);
        }
        LeastEdits single = new LeastEdits();
        single.old(0, 0);
        single.output(2, 1);
        checks.due("one AND, of none", single.run(0), NONE);
        checks.due("one AND, of two", single.run(2), 1);
        single.keep(1, true);
        checks.due("one AND, which is kept", single.run(2), NONE);
        LeastEdits most = mostNodes();
        most.output(2, 4);
        for (int k = 0; k <= 2; k++) {
            checks.due("all ANDs that there can be", most.run(k), NONE);
        }
        for (int node = 6; node <= 13; node++) {
            most.keep(node, true);
            checks.due("fewer and fewer that are not kept", most.run(2), NONE);
        }
        LeastEdits last = mostNodes();
        last.keep(13, true);
        last.output(26, 3);
        last.output(24, 4);
        checks.due("the last one is kept and differs", last.run(2), NONE);
        last.keep(13, false);
        checks.due("the last two", last.run(2), 2);
        checks.edit("the last two", last, 0, 12, 1, 4);
        checks.edit("the last two", last, 1, 13, 1, 3);
    }

    private static void runTooManyOrTooFew() {
        checks.sentence("13: most is not 0 .. 2");
        LeastEdits x = Designs.oneEditAway();
        for (int most : beyond(3)) {
            checks.argument("run(" + most + ")", () -> x.run(most));
        }
        checks.state("nothing is run", () -> x.length());
        checks.due("two at most", x.run(2), 1);
    }

    private static void editOfNoWhat() {
        checks.sentence("14: IndexOutOfBoundsException: of what; IllegalStateException: NOTHING IS RUN");
        LeastEdits x = Designs.oneEditAway();
        for (int none : beyond(3)) {
            checks.bounds("nothing run, edit(0, " + none + ")", () -> x.edit(0, none));
            checks.bounds("nothing run, edit(-1, " + none + ")", () -> x.edit(-1, none));
        }
        for (int k : beyond(0)) {
            checks.state("nothing run, edit(" + k + ", 0)", () -> x.edit(k, 0));
            checks.state("nothing run, edit(" + k + ", 2)", () -> x.edit(k, 2));
        }
        x.run(1);
        for (int none : beyond(3)) {
            checks.bounds("edit(0, " + none + ")", () -> x.edit(0, none));
        }
        checks.edit("what is 0 .. 2", x, 0, 4, 1, 2);
    }

    private static void editOfNoEdit() {
        checks.sentence("14: IndexOutOfBoundsException: of the edit");
        LeastEdits none = new LeastEdits();
        none.run(2);
        LeastEdits one = Designs.oneEditAway();
        one.run(2);
        LeastEdits two = Designs.twoEditsAway();
        two.run(2);
        for (int what = 0; what <= 2; what++) {
            int of = what;
            for (int k : beyond(0)) {
                checks.bounds("of no edits: " + k, () -> none.edit(k, of));
            }
            for (int k : beyond(1)) {
                checks.bounds("of one edit: " + k, () -> one.edit(k, of));
            }
            for (int k : beyond(2)) {
                checks.bounds("of two edits: " + k, () -> two.edit(k, of));
            }
        }
        checks.edit("the last one", two, 1, 4, 1, 4);
        LeastEdits less = Designs.twoEditsAway();
        less.run(2);
        less.make();
        less.run(2);
        checks.bounds("those of a former run are gone", () -> less.edit(0, 0));
    }

    private static void usedOfNoEdit() {
        checks.sentence("15: NONE if there is no taking. NOTHING IS RUN; IndexOutOfBoundsException");
        LeastEdits x = Designs.twoEditsAway();
        for (int k : beyond(0)) {
            checks.state("nothing run: " + k, () -> x.used(k));
        }
        x.run(1);
        checks.state("the run found nothing", () -> x.used(0));
        x.run(2);
        for (int k : beyond(2)) {
            checks.bounds("of two edits without a taking: " + k, () -> x.used(k));
        }
        checks.due("no taking", x.used(0), NONE);
        checks.due("no taking", x.used(1), NONE);
        x.spare(0, 0);
        x.spare(0, 0);
        x.run(2);
        checks.due("a taking", x.used(1), 1);
        for (int k : beyond(2)) {
            checks.bounds("of two edits with a taking: " + k, () -> x.used(k));
        }
        LeastEdits one = Designs.oneEditAway();
        one.spare(0, 0);
        one.spare(0, 0);
        one.run(2);
        checks.bounds("of one edit", () -> one.used(1));
        LeastEdits none = new LeastEdits();
        none.spare(0, 0);
        none.run(2);
        checks.bounds("of no edits", () -> none.used(0));
    }

    private static void lengthNone() {
        checks.sentence("16: The sum of the taking; NONE if there is none. NOTHING IS RUN");
        LeastEdits x = Designs.twoEditsAway();
        checks.state("nothing run", () -> x.length());
        x.run(0);
        checks.state("the run found nothing", () -> x.length());
        x.run(2);
        checks.due("no taking", x.length(), NONE);
        x.spare(1, 1);
        x.run(2);
        checks.due("one spare is too few", x.length(), NONE);
        x.spare(-1, 1);
        x.run(2);
        checks.due("the sum", x.length(), 4);
        x.make();
        x.run(2);
        checks.due("the sum of no edits", x.length(), 0);
    }

    private static void makeHowMany() {
        checks.sentence("17: The edits of the latest run are made: how many. NOTHING IS RUN");
        LeastEdits none = Designs.withInputs(1);
        none.run(0);
        checks.due("no edits", none.make(), 0);
        checks.due("but made", none.count(7), 1);
        checks.state("not twice", () -> none.make());
        LeastEdits one = Designs.oneEditAway();
        checks.state("nothing run", () -> one.make());
        one.run(0);
        checks.state("the run found nothing", () -> one.make());
        one.run(2);
        checks.due("one edit", one.make(), 1);
        checks.due("its AND's first", one.literal(4, 0), 1);
        checks.due("its AND's second", one.literal(4, 1), 2);
        checks.due("the other one is as it was", one.literal(5, 0), 8);
        checks.due("nothing differs", one.differing(), 0);
        checks.due("an AND of an edited one", one.value(10, 5), 1);
        LeastEdits two = Designs.twoEditsAway();
        two.run(2);
        checks.due("two edits", two.make(), 2);
        checks.due("made once", two.count(7), 1);
        checks.state("not twice", () -> two.make());
        checks.due("no edits are left", two.run(2), 0);
        checks.due("spares are not needed", two.count(5), 0);
    }

    private static void makeFull() {
        checks.sentence("17: or 20 were made that were not undone");
        LeastEdits x = Designs.oneEditAway();
        x.run(1);
        x.make();
        Designs.makeNothing(x, 18);
        checks.due("19 were made", x.count(7), 19);
        x.run(2);
        checks.due("the 20th", x.make(), 0);
        x.run(2);
        checks.state("a 21st", () -> x.make());
        checks.due("made", x.count(7), 20);
        checks.due("the run stands", x.length(), 0);
        x.undo();
        x.run(2);
        checks.due("one was undone", x.make(), 0);
        checks.due("made", x.count(7), 20);
        for (int k = 0; k < 20; k++) {
            checks.due("undone", x.undo(), true);
        }
        checks.due("the first is undone, too", x.literal(4, 0), 2);
        x.run(1);
        checks.due("made again", x.make(), 1);
        LeastEdits twos = Designs.twoEditsAway();
        for (int k = 1; k <= 20; k++) {
            twos.run(2);
            twos.make();
            if (k < 20) {
                twos.undo();
            }
        }
        checks.due("what was undone does not count", twos.count(7), 1);
    }

    private static void undoAnswers() {
        checks.sentence("18: whether there was something");
        LeastEdits x = Designs.oneEditAway();
        checks.due("nothing was made", x.undo(), false);
        x.run(1);
        checks.due("nothing was made, but run", x.undo(), false);
        checks.due("the run stands", x.make(), 1);
        checks.due("one edit", x.undo(), true);
        checks.due("nothing is left", x.undo(), false);
        LeastEdits none = new LeastEdits();
        Designs.makeNothing(none, 20);
        for (int k = 20; k > 0; k--) {
            checks.due("no edits, but made", none.undo(), true);
            checks.due("what is left", none.count(7), k - 1);
        }
        checks.due("nothing is left", none.undo(), false);
    }

    private static void undoTakesBack() {
        checks.sentence("18: What was made last is undone");
        LeastEdits x = Designs.withInputs(2);
        x.old(4, 2);
        x.old(6, 3);
        x.output(6, 3);
        x.output(8, 5);
        x.run(2);
        x.make();
        x.keep(3, true);
        x.place(3, 7, 7);
        x.spare(1, 1);
        x.old(6, 8);
        x.undo();
        checks.due("the first as it was told", x.literal(3, 0), 4);
        checks.due("though it is below", x.literal(3, 1), 2);
        checks.due("the other one, too", x.literal(4, 0), 6);
        checks.due("the other one, too", x.literal(4, 1), 3);
        checks.due("values as they were", x.value(6, 3), 1);
        checks.due("values as they were", x.value(6, 0), 0);
        checks.due("they differ again", x.differing(), 2);
        checks.due("what was kept stays kept", x.keep(3, true), false);
        checks.due("places stay", x.place(3, 7, 7), false);
        checks.due("spares stay", x.count(5), 1);
        checks.due("an AND told since stays", x.literal(5, 0), 6);
        checks.due("with the values of now", x.value(10, 3), 0);
    }

    private static void undoIsOneMakingEach() {
        checks.sentence("18: What was made last (and not what was made before)");
        LeastEdits x = Designs.oneEditAway();
        x.run(1);
        x.make();
        x.output(8, 4);
        checks.due("another edit of the same AND", x.run(2), 2);
        checks.edit("another edit of the same AND", x, 0, 4, 1, 4);
        checks.edit("and one of the other", x, 1, 5, 2, 6);
        x.make();
        x.undo();
        checks.due("as the first making left it", x.literal(4, 0), 1);
        checks.due("as the first making left it", x.literal(4, 1), 2);
        checks.due("as it was from the beginning", x.literal(5, 0), 8);
        x.undo();
        checks.due("as it was from the beginning", x.literal(4, 0), 2);
        checks.due("as it was from the beginning", x.literal(4, 1), 4);
        checks.due("nothing is left", x.undo(), false);
        LeastEdits none = Designs.withInputs(2);
        none.old(2, 4);
        Designs.makeNothing(none, 1);
        none.output(6, 4);
        none.run(1);
        none.make();
        none.undo();
        none.undo();
        none.run(1);
        none.make();
        Designs.makeNothing(none, 1);
        checks.due("no edits were made last", none.undo(), true);
        checks.due("so none is undone", none.literal(3, 0), 1);
        LeastEdits last = Designs.withInputs(2);
        last.old(2, 4);
        last.old(2, 4);
        Designs.makeNothing(last, 19);
        last.output(6, 4);
        last.output(8, 2);
        last.run(2);
        checks.due("the 20th making is of two edits", last.make(), 2);
        checks.due("it is undone", last.undo(), true);
        checks.due("the first one", last.literal(3, 0), 2);
        checks.due("the second one", last.literal(4, 1), 4);
    }

    private static void literalNow() {
        checks.sentence("19: which = 0 its first literal now, 1 its second one");
        LeastEdits x = Designs.withInputs(2);
        x.old(5, 2);
        checks.due("as told, though it is above", x.literal(3, 0), 5);
        checks.due("as told, though it is below", x.literal(3, 1), 2);
        x.output(6, 4);
        x.run(2);
        checks.due("a run alone changes none", x.literal(3, 0), 5);
        x.make();
        checks.due("made", x.literal(3, 0), 1);
        checks.due("made", x.literal(3, 1), 4);
        x.undo();
        checks.due("undone", x.literal(3, 0), 5);
        checks.due("undone", x.literal(3, 1), 2);
    }

    private static void literalOfNoOldAnd() {
        checks.sentence("19: IndexOutOfBoundsException: also if it is no old AND");
        LeastEdits x = oneOfEach();
        for (int none : noOldAnds()) {
            checks.bounds("literal(" + none + ", 0)", () -> x.literal(none, 0));
            checks.bounds("literal(" + none + ", 1)", () -> x.literal(none, 1));
        }
        for (int none : beyond(2)) {
            checks.bounds("literal(2, " + none + ")", () -> x.literal(2, none));
            checks.bounds("literal(3, " + none + ")", () -> x.literal(3, none));
        }
        LeastEdits most = mostNodes();
        checks.bounds("behind the last node", () -> most.literal(38, 0));
    }

    private static void countEmptyAndFull() {
        checks.sentence("20: How many");
        LeastEdits x = Designs.full();
        for (int node = 3; node <= 10; node++) {
            x.keep(node, true);
        }
        Designs.makeNothing(x, 20);
        int[] due = {35, 2, 8, 24, 4, 6, 8, 20};
        for (int what = 0; what <= 7; what++) {
            checks.due("count(" + what + ") of a full one", x.count(what), due[what]);
        }
        LeastEdits each = Designs.withInputs(1);
        each.old(2, 2);
        each.old(2, 2);
        each.asked(2, 2);
        each.asked(2, 2);
        each.asked(2, 2);
        int[] dueEach = {7, 1, 2, 3, 0, 0, 0, 0};
        for (int what = 0; what <= 7; what++) {
            checks.due("count(" + what + ") of a small one", each.count(what), dueEach[what]);
        }
    }

    private static void countOfNoWhat() {
        checks.sentence("20: IndexOutOfBoundsException");
        LeastEdits x = oneOfEach();
        for (int none : beyond(8)) {
            checks.bounds("count(" + none + ")", () -> x.count(none));
        }
    }

    private static void clearOfAll() {
        checks.sentence("21: Node 0 alone, no spares");
        LeastEdits x = Designs.full();
        x.keep(3, true);
        x.place(4, 5, 5);
        Designs.makeNothing(x, 20);
        x.run(0);
        x.clear();
        checks.due("node 0 alone", x.count(0), 1);
        for (int what = 1; what <= 7; what++) {
            checks.due("count(" + what + ")", x.count(what), 0);
        }
        checks.state("nothing is run", () -> x.length());
        checks.due("nothing to undo", x.undo(), false);
        checks.bounds("no literal but FALSE's", () -> x.value(2, 0));
        checks.bounds("no outputs", () -> x.witness(0));
        checks.bounds("no old AND to keep", () -> one(x.keep(3, true)));
        checks.bounds("no old AND to place", () -> one(x.place(4, 0, 0)));
        checks.bounds("no old AND's literals", () -> x.literal(3, 0));
        checks.due("nothing is to be edited", x.run(2), 0);
        checks.due("nothing is taken", x.length(), 0);
        x.clear();
        checks.state("nothing is run after another one", () -> x.length());
    }

    private static void clearIsAsNew() {
        checks.sentence("21: Node 0 alone, no spares (and all may be filled again)");
        LeastEdits x = Designs.full();
        for (int node = 3; node <= 10; node++) {
            x.keep(node, true);
            x.place(node, node, node);
        }
        Designs.makeNothing(x, 20);
        x.clear();
        for (int k = 1; k <= 5; k++) {
            checks.due("input " + k, x.input(), 2 * k);
        }
        for (int k = 0; k < 8; k++) {
            checks.due("old AND " + k, x.old(2, 4), 12 + 2 * k);
            checks.due("is not kept", x.keep(6 + k, false), false);
            checks.due("lies at 0, 0", x.place(6 + k, 0, 0), false);
        }
        for (int k = 0; k < 24; k++) {
            checks.due("asked AND " + k, x.asked(2, 5), 28 + 2 * k);
        }
        for (int k = 0; k < 4; k++) {
            checks.due("output " + k, x.output(26, 28), k);
        }
        for (int k = 0; k < 6; k++) {
            checks.due("spare " + k, x.spare(-k - 1, k), k);
        }
        checks.due("one edit", x.run(2), 1);
        checks.edit("one edit", x, 0, 13, 2, 5);
        checks.due("the nearest spare", x.used(0), 0);
        checks.due("how near", x.length(), 1);
        checks.due("made", x.make(), 1);
        checks.due("made once", x.count(7), 1);
        checks.due("the least that is the same", x.matched(74), 26);
    }

    /** Each old AND of before stands where an input or an asked AND, or nothing, is behind it. */
    private static void clearLeavesNothingBehind() {
        checks.sentence("21: Node 0 alone (nothing of before shows in what is told after it)");
        LeastEdits bare = new LeastEdits();
        bare.old(0, 0);
        bare.keep(1, true);
        bare.output(2, 1);
        bare.clear();
        checks.due("no kept ones", bare.count(6), 0);
        checks.due("no outputs", bare.differing(), 0);
        checks.bounds("no old AND to keep", () -> one(bare.keep(1, false)));
        checks.bounds("no old AND to place", () -> one(bare.place(1, 0, 0)));
        checks.bounds("no old AND's literals", () -> bare.literal(1, 0));
        bare.input();
        checks.bounds("an input is no old AND", () -> one(bare.keep(1, false)));
        checks.due("an asked AND of it", bare.asked(2, 2), 4);
        LeastEdits asked = new LeastEdits();
        asked.asked(0, 0);
        asked.clear();
        asked.input();
        checks.due("an old AND of an input that was an asked one", asked.old(2, 2), 4);
        checks.due("an output of it", asked.output(2, 2), 0);
        LeastEdits same = Designs.withInputs(2);
        same.old(2, 4);
        same.clear();
        same.input();
        same.input();
        same.asked(2, 4);
        checks.due("no old AND is the same", same.matched(6), NONE);
        same.output(2, 6);
        checks.due("no old AND to edit", same.run(2), NONE);
    }
}
