/** The edges in "Terms" and "2 EDITS", a method for each sentence of the document. */
public final class TermsEdgeTest {
    private static final int NONE = LeastEdits.NONE;
    private static final Checks checks = new Checks();

    public static void main(String[] args) {
        inputsAreNodesForBothDesigns();
        andsFillInAnyOrder();
        nodesAreNumberedAsTheyCome();
        literalsAreTwoForEachNode();
        andsAreOfNodesBeforeThem();
        outputsFill();
        inputIsItsBitOfAnAssignment();
        sameInEachAssignment();
        editsGiveNodesBefore();
        editsGiveTheGreatestBefore();
        editsGiveFalseAndTrue();
        editsMayLeaveOneAsItWas();
        editsGiveInOrder();
        editsAreOfAndsNotKept();
        setsAreForDifferentAnds();
        setsAreRightForAllOutputs();
        setsAreRightWhereOneDoesNotMatter();
        setsAreRightWhereTwoMatterTogether();
        runsOfTheLeastNumber();
        firstByTheFirstAnd();
        firstByTheSecondAnd();
        firstByTheFirstEditsFirstLiteral();
        firstByTheFirstEditsSecondLiteral();
        firstByTheSecondEditsFirstLiteral();
        firstByTheSecondEditsSecondLiteral();
        placesAtFirst();
        takingsGiveEachASpareOfItsOwn();
        takingsHaveTheLeastSum();
        takingsOfOneEditTakeTheLesser();
        takingsOfTwoEditsTakeTheLesserFirst();
        takingsOfTwoEditsTakeTheLesserSecond();
        noTakingWithFewerSpares();
        checks.end();
    }

    private static void inputsAreNodesForBothDesigns() {
        checks.sentence("INPUTS 0, 1, .. (5 at most) are nodes for both designs");
        LeastEdits x = Designs.withInputs(5);
        checks.state("a sixth input", () -> x.input());
        int node = 6;
        for (int k = 1; k <= 5; k++) {
            checks.due("old of input " + k, x.old(2 * k, 2 * k + 1), 2 * node);
            checks.due("asked of input " + k, x.asked(2 * k + 1, 2 * k), 2 * node + 2);
            node += 2;
        }
        for (int k = 0; k < 4; k++) {
            checks.due("output of input " + k + " on both sides", x.output(2 * k + 2, 2 * k + 2), k);
        }
        checks.due("inputs are the same for both", x.differing(), 0);
    }

    private static void andsFillInAnyOrder() {
        checks.sentence("ANDS are OLD (8 at most) or ASKED (24 at most)");
        LeastEdits oldFirst = new LeastEdits();
        for (int k = 1; k <= 8; k++) {
            checks.due("old AND " + k, oldFirst.old(0, 1), 2 * k);
        }
        checks.state("a ninth old AND", () -> oldFirst.old(0, 1));
        for (int k = 9; k <= 32; k++) {
            checks.due("asked AND, node " + k, oldFirst.asked(1, 0), 2 * k);
        }
        checks.state("a 25th asked AND", () -> oldFirst.asked(0, 1));
        LeastEdits askedFirst = Designs.withInputs(5);
        for (int k = 6; k <= 29; k++) {
            checks.due("asked AND first, node " + k, askedFirst.asked(0, 1), 2 * k);
        }
        checks.state("a 25th asked AND before old ones", () -> askedFirst.asked(0, 1));
        for (int k = 30; k <= 37; k++) {
            checks.due("old AND behind, node " + k, askedFirst.old(1, 1), 2 * k);
        }
        checks.state("a ninth old AND behind", () -> askedFirst.old(0, 1));
        checks.due("nodes when all is full", askedFirst.count(0), 38);
        checks.due("the last literal", askedFirst.value(75, 0), 0);
        checks.bounds("the one behind the last literal", () -> askedFirst.value(76, 0));
    }

    private static void nodesAreNumberedAsTheyCome() {
        checks.sentence("Nodes are numbered as they come, from 1 on");
        LeastEdits x = new LeastEdits();
        checks.due("an input", x.input(), 2);
        checks.due("another input", x.input(), 4);
        checks.due("an asked AND", x.asked(2, 4), 6);
        checks.due("an old AND", x.old(2, 4), 8);
        checks.due("another asked AND", x.asked(6, 2), 10);
        checks.due("another old AND", x.old(8, 2), 12);
        LeastEdits bare = new LeastEdits();
        checks.due("an old AND as node 1", bare.old(0, 0), 2);
        checks.due("an asked AND as node 2", bare.asked(0, 0), 4);
    }

    private static void literalsAreTwoForEachNode() {
        checks.sentence("A LITERAL is 2 times a node, or that and 1: the node TURNED (not it)");
        LeastEdits x = new LeastEdits();
        checks.due("FALSE", x.value(0, 0), 0);
        checks.due("FALSE turned", x.value(1, 0), 1);
        checks.bounds("node 1 when there is node 0 alone", () -> x.value(2, 0));
        x.input();
        x.old(2, 2);
        x.asked(2, 2);
        for (int node = 1; node <= 3; node++) {
            for (int s = 0; s <= 1; s++) {
                checks.due("node " + node + " in " + s, x.value(2 * node, s), s);
                checks.due("node " + node + " turned in " + s, x.value(2 * node + 1, s), 1 - s);
            }
        }
        checks.bounds("behind the last literal", () -> x.value(8, 0));
    }

    private static void andsAreOfNodesBeforeThem() {
        checks.sentence("An AND is of two literals of nodes before it: FALSE, inputs, ANDs of its own design");
        LeastEdits x = Designs.withInputs(1);
        checks.bounds("old of itself", () -> x.old(4, 2));
        checks.bounds("old of itself turned", () -> x.old(2, 5));
        checks.bounds("asked of itself", () -> x.asked(4, 2));
        checks.bounds("asked of itself turned", () -> x.asked(2, 5));
        checks.due("old of FALSE turned and an input", x.old(1, 2), 4);
        checks.due("asked of the same literal twice", x.asked(3, 3), 6);
        checks.due("old of the last node before it", x.old(5, 0), 8);
        checks.argument("asked of the last node before it, an old one", () -> x.asked(9, 0));
        checks.due("asked of an asked one", x.asked(6, 2), 10);
        checks.argument("old of the last node before it, an asked one", () -> x.old(2, 11));
        checks.due("a literal and it turned", x.old(2, 3), 12);
        checks.due("is FALSE", x.matched(12), 0);
        checks.due("twice a turned one is that", x.matched(6), 3);
        checks.due("another AND of TRUE and an input is that", x.matched(4), 2);
    }

    private static void outputsFill() {
        checks.sentence("OUTPUTS 0, 1, .. (4 at most) are a literal of the old design and one of what is asked");
        LeastEdits x = new LeastEdits();
        checks.due("an output of FALSE alone", x.output(0, 0), 0);
        checks.due("an output of FALSE turned", x.output(1, 1), 1);
        x.input();
        x.old(2, 3);
        x.asked(3, 2);
        checks.due("an output of old and asked", x.output(5, 7), 2);
        checks.due("the same output again", x.output(5, 7), 3);
        checks.state("a fifth output", () -> x.output(0, 0));
        checks.due("none differs", x.differing(), 0);
    }

    private static void inputIsItsBitOfAnAssignment() {
        checks.sentence("AN ASSIGNMENT gives each input 0 or 1: as a number input k is bit k");
        LeastEdits x = Designs.withInputs(5);
        for (int k = 0; k < 5; k++) {
            for (int s = 0; s < 32; s++) {
                checks.due("input " + k + " in " + s, x.value(2 + 2 * k, s), (s >> k) & 1);
            }
        }
    }

    /** An AND of all inputs, each of them turned where the assignment has a 0. */
    private static int onlyIn(LeastEdits x, int assignment) {
        int all = x.old(2 + (~assignment & 1), 4 + (~assignment >> 1 & 1));
        for (int k = 2; k < 5; k++) {
            all = x.old(all, 2 + 2 * k + (~assignment >> k & 1));
        }
        return all;
    }

    private static void sameInEachAssignment() {
        checks.sentence("Two literals are THE SAME if they have the same value in each assignment");
        for (int s = 0; s < 32; s++) {
            LeastEdits x = Designs.withInputs(5);
            int only = onlyIn(x, s);
            x.output(only, 0);
            x.output(1, x.asked(2, 3));
            x.output(only + 1, 1);
            checks.due("they differ in " + s + " alone", x.differing(), 3);
            checks.due("where that is", x.witness(0), s);
            checks.due("where the turned one does", x.witness(2), s);
            checks.due("all others match", x.matched(only), only);
        }
        LeastEdits same = Designs.withInputs(3);
        same.old(2, 4);
        same.old(8, 6);
        same.asked(4, 6);
        same.asked(12, 2);
        same.output(10, 14);
        checks.due("the same by other ANDs", same.differing(), 0);
    }

    private static void editsGiveNodesBefore() {
        checks.sentence("of nodes before it, FALSE, inputs or old ANDs");
        LeastEdits later = Designs.withInputs(3);
        later.old(2, 2);
        later.old(2, 4);
        later.asked(2, 4);
        later.asked(12, 6);
        later.output(8, 14);
        checks.due("it and a later one are none", later.run(2), NONE);
        LeastEdits itself = Designs.withInputs(3);
        itself.old(4, 4);
        itself.old(2, 4);
        itself.asked(2, 4);
        itself.asked(12, 6);
        itself.output(8, 2);
        checks.due("one edit of two", itself.run(2), 1);
        itself.output(10, 14);
        checks.due("what it was itself is none", itself.run(2), NONE);
        LeastEdits firstItself = Designs.withInputs(3);
        firstItself.old(0, 0);
        firstItself.old(0, 0);
        firstItself.old(8, 6);
        firstItself.asked(2, 4);
        firstItself.asked(14, 6);
        firstItself.output(12, 16);
        checks.due("one edit of two", firstItself.run(2), 1);
        firstItself.output(11, 16);
        checks.due("nor what another set would make it", firstItself.run(2), NONE);
        LeastEdits asItWas = Designs.withInputs(3);
        asItWas.old(2, 4);
        asItWas.old(2, 4);
        asItWas.asked(2, 4);
        asItWas.asked(12, 6);
        asItWas.output(10, 14);
        checks.due("one edit of two", asItWas.run(2), 1);
        asItWas.output(8, 4);
        checks.due("nor what the first was before its own edit", asItWas.run(2), NONE);
        LeastEdits laterOfTwo = Designs.withInputs(3);
        laterOfTwo.old(2, 2);
        laterOfTwo.old(2, 4);
        laterOfTwo.old(2, 4);
        laterOfTwo.asked(2, 4);
        laterOfTwo.asked(14, 6);
        laterOfTwo.output(8, 16);
        laterOfTwo.output(12, 6);
        checks.due("a later one is none for the first of two", laterOfTwo.run(2), NONE);
        LeastEdits before = Designs.withInputs(3);
        before.old(2, 4);
        before.old(2, 2);
        before.asked(2, 4);
        before.asked(12, 6);
        before.output(10, 14);
        checks.due("the one just before it", before.run(2), 1);
        checks.edit("the one just before it", before, 0, 5, 6, 8);
        LeastEdits asked = Designs.withInputs(3);
        asked.asked(2, 4);
        asked.asked(8, 6);
        asked.old(2, 2);
        asked.output(12, 10);
        checks.due("an asked one before it is none", asked.run(2), NONE);
    }

    private static void editsGiveTheGreatestBefore() {
        checks.sentence("of nodes before it, up to the greatest literals");
        LeastEdits x = Designs.withInputs(5);
        x.old(2, 4);
        x.old(2, 4);
        x.asked(9, 11);
        x.output(12, 16);
        checks.due("one edit", x.run(2), 1);
        checks.edit("the last two inputs turned", x, 0, 6, 9, 11);
        x.asked(7, 16);
        x.output(14, 18);
        checks.due("two edits", x.run(2), 2);
        checks.edit("the last two inputs turned", x, 0, 6, 9, 11);
        checks.edit("an input turned and the AND before it", x, 1, 7, 7, 12);
        LeastEdits last = Designs.withInputs(5);
        last.old(2, 4);
        last.old(6, 8);
        last.old(2, 2);
        last.asked(2, 4);
        last.asked(6, 8);
        last.asked(19, 21);
        last.output(16, 22);
        checks.due("two ANDs before it turned", last.run(1), 1);
        checks.edit("two ANDs before it turned", last, 0, 8, 13, 15);
    }

    private static void editsGiveFalseAndTrue() {
        checks.sentence("FALSE (and it turned), where there is nothing else");
        LeastEdits bare = new LeastEdits();
        bare.old(1, 1);
        bare.output(2, 0);
        checks.due("without inputs", bare.run(1), 1);
        checks.edit("FALSE and FALSE", bare, 0, 1, 0, 0);
        LeastEdits turned = new LeastEdits();
        turned.old(0, 1);
        turned.output(2, 1);
        checks.due("without inputs, turned", turned.run(1), 1);
        checks.edit("TRUE and TRUE", turned, 0, 1, 1, 1);
    }

    private static void editsMayLeaveOneAsItWas() {
        checks.sentence("two literals (one of them may be as it was)");
        LeastEdits first = Designs.withInputs(2);
        first.old(2, 4);
        first.asked(2, 5);
        first.output(6, 8);
        checks.due("the first as it was", first.run(2), 1);
        checks.edit("the first as it was", first, 0, 3, 2, 5);
        LeastEdits second = Designs.withInputs(2);
        second.old(2, 4);
        second.asked(3, 4);
        second.output(6, 8);
        checks.due("the second as it was", second.run(2), 1);
        checks.edit("the second as it was", second, 0, 3, 3, 4);
        LeastEdits none = Designs.withInputs(2);
        none.old(2, 4);
        none.asked(3, 5);
        none.output(6, 8);
        checks.due("none as it was", none.run(2), 1);
        checks.edit("none as it was", none, 0, 3, 3, 5);
    }

    private static void editsGiveInOrder() {
        checks.sentence("the first one not above the second one");
        LeastEdits x = Designs.withInputs(2);
        x.old(4, 4);
        x.asked(4, 2);
        x.output(6, 8);
        x.run(1);
        checks.edit("asked the other way round", x, 0, 3, 2, 4);
        x.make();
        checks.due("the first one now", x.literal(3, 0), 2);
        checks.due("the second one now", x.literal(3, 1), 4);
        LeastEdits equal = Designs.withInputs(1);
        equal.old(2, 2);
        equal.output(4, 0);
        equal.run(1);
        checks.edit("both the same", equal, 0, 2, 0, 0);
    }

    private static void editsAreOfAndsNotKept() {
        checks.sentence("AN EDIT gives an old AND that is not KEPT two literals");
        LeastEdits x = Designs.twoEditsAway();
        x.keep(3, true);
        checks.due("the first one is kept", x.run(2), NONE);
        x.keep(3, false);
        x.keep(4, true);
        checks.due("the second one is kept", x.run(2), NONE);
        x.keep(4, false);
        checks.due("none is kept", x.run(2), 2);
        x.make();
        x.keep(3, true);
        x.keep(4, true);
        checks.due("all are kept where no edit is needed", x.run(2), 0);
        LeastEdits other = Designs.oneEditAway();
        other.keep(4, true);
        checks.due("one edit of the other one", other.run(2), 1);
        checks.edit("one edit of the other one", other, 0, 5, 2, 6);
        other.keep(4, false);
        other.run(2);
        checks.edit("the first one again", other, 0, 4, 1, 2);
    }

    private static void setsAreForDifferentAnds() {
        checks.sentence("A SET of edits is for different ANDs, by their numbers");
        LeastEdits x = Designs.withInputs(2);
        x.old(2, 2);
        x.asked(2, 4);
        x.old(2, 2);
        x.output(10, 8);
        x.output(6, 4);
        checks.due("two of them", x.run(2), 2);
        checks.edit("the lesser number", x, 0, 3, 1, 4);
        checks.edit("the greater number", x, 1, 5, 2, 4);
        LeastEdits four = Designs.withInputs(5);
        four.old(3, 6);
        four.old(0, 7);
        four.old(12, 15);
        four.asked(3, 4);
        four.asked(6, 11);
        four.asked(18, 20);
        four.output(16, 22);
        checks.due("two of three", four.run(2), 2);
        checks.edit("the lesser number", four, 0, 7, 4, 11);
        checks.edit("the greater number", four, 1, 8, 12, 14);
        LeastEdits one = new LeastEdits();
        one.old(0, 0);
        one.output(2, 1);
        one.output(2, 0);
        checks.due("one AND can not be edited twice", one.run(2), NONE);
    }

    private static void setsAreRightForAllOutputs() {
        checks.sentence("It is RIGHT if no output differs with it");
        LeastEdits x = Designs.withInputs(2);
        x.old(2, 4);
        x.old(6, 6);
        x.output(6, 2);
        checks.due("one output", x.run(2), 1);
        checks.edit("one output", x, 0, 3, 1, 2);
        x.output(8, 2);
        checks.due("a second one that follows it", x.run(2), 1);
        x.output(8, 4);
        checks.due("a third one that does not", x.run(2), NONE);
        LeastEdits right = Designs.withInputs(2);
        right.old(2, 4);
        right.old(6, 6);
        right.asked(2, 4);
        right.output(6, 10);
        right.output(8, 2);
        checks.due("the first output stays right", right.run(2), 1);
        checks.edit("the first output stays right", right, 0, 4, 1, 2);
    }

    /** Inputs 2, 4; old 6 and 8, which matter in output 1 only where input 4 is 1. */
    private static LeastEdits maskedByAnInput() {
        LeastEdits x = Designs.withInputs(2);
        x.old(2, 2);
        x.old(2, 2);
        x.old(8, 4);
        x.asked(3, 4);
        x.output(10, 12);
        return x;
    }

    private static void setsAreRightWhereOneDoesNotMatter() {
        checks.sentence("It is RIGHT if no output differs with it"
            + " (in some assignments one edit alone tells it)");
        LeastEdits zero = maskedByAnInput();
        zero.keep(5, true);
        zero.output(6, 4);
        checks.due("the first AND is 0 there", zero.run(2), 2);
        checks.edit("the first AND is 0 there", zero, 0, 3, 1, 4);
        checks.edit("the first AND is 0 there", zero, 1, 4, 1, 3);
        LeastEdits one = maskedByAnInput();
        one.keep(5, true);
        one.output(6, 5);
        checks.due("the first AND is 1 there", one.run(2), 2);
        checks.edit("the first AND is 1 there", one, 0, 3, 1, 5);
        checks.edit("the first AND is 1 there", one, 1, 4, 1, 3);
    }

    private static void setsAreRightWhereTwoMatterTogether() {
        checks.sentence("It is RIGHT if no output differs with it"
            + " (in some assignments the two edits tell it only together)");
        // Old 6 and 8 are due to be unlike; where input 4 is 1, old 6 is due to be input 2 turned.
        LeastEdits unlike = Designs.withInputs(2);
        unlike.old(2, 2);
        unlike.old(4, 4);
        unlike.old(6, 9);
        unlike.old(7, 8);
        unlike.old(11, 13);
        unlike.old(6, 4);
        unlike.output(15, 1);
        unlike.output(16, unlike.asked(3, 4));
        checks.due("unlike", unlike.run(2), 2);
        checks.edit("unlike", unlike, 0, 3, 1, 3);
        checks.edit("unlike", unlike, 1, 4, 1, 2);
        // The same with old 6 and 8 due to be alike.
        LeastEdits alike = Designs.withInputs(2);
        alike.old(2, 2);
        alike.old(4, 4);
        alike.old(6, 9);
        alike.old(7, 8);
        alike.old(11, 13);
        alike.old(6, 4);
        alike.output(14, 1);
        alike.output(16, alike.asked(3, 4));
        checks.due("alike", alike.run(2), 2);
        checks.edit("alike", alike, 0, 3, 1, 3);
        checks.edit("alike", alike, 1, 4, 1, 3);
    }

    private static void runsOfTheLeastNumber() {
        checks.sentence("right sets of the least number of edits that there are");
        for (int most = 0; most <= 2; most++) {
            LeastEdits none = Designs.withInputs(2);
            none.old(2, 4);
            none.output(6, none.asked(4, 2));
            checks.due("none is needed, " + most + " at most", none.run(most), 0);
            checks.due("one is needed, " + most + " at most",
                Designs.oneEditAway().run(most), most >= 1 ? 1 : NONE);
            checks.due("two are needed, " + most + " at most",
                Designs.twoEditsAway().run(most), most >= 2 ? 2 : NONE);
        }
        LeastEdits three = Designs.withInputs(1);
        for (int k = 0; k < 3; k++) {
            three.output(three.old(2, 2), 0);
        }
        checks.due("three are needed", three.run(2), NONE);
    }

    private static void firstByTheFirstAnd() {
        checks.sentence("of several the first: by the first edit's AND");
        LeastEdits one = Designs.withInputs(2);
        one.old(2, 4);
        one.old(7, 7);
        one.output(8, 0);
        one.run(1);
        checks.edit("the lesser AND with greater literals", one, 0, 3, 1, 1);
        LeastEdits two = Designs.withInputs(2);
        two.old(2, 4);
        two.old(7, 7);
        two.old(2, 4);
        two.output(8, 0);
        two.output(10, 0);
        checks.due("two edits", two.run(2), 2);
        checks.edit("the lesser AND with greater literals", two, 0, 3, 1, 1);
        checks.edit("the other output's", two, 1, 5, 0, 0);
    }

    private static void firstByTheSecondAnd() {
        checks.sentence("then by the second one's");
        LeastEdits x = Designs.withInputs(2);
        x.old(2, 4);
        x.old(2, 4);
        x.old(9, 9);
        x.output(6, 0);
        x.output(10, 0);
        checks.due("two edits", x.run(2), 2);
        checks.edit("the first output's", x, 0, 3, 0, 0);
        checks.edit("the lesser AND with greater literals", x, 1, 4, 1, 1);
        LeastEdits before = Designs.withInputs(2);
        before.old(2, 4);
        before.old(2, 4);
        before.old(9, 7);
        before.output(8, 4);
        before.output(10, 0);
        checks.due("the second AND is edited with the first or the last", before.run(2), 2);
        checks.edit("with the first one", before, 0, 3, 1, 1);
        checks.edit("after the first one", before, 1, 4, 1, 4);
    }

    private static void firstByTheFirstEditsFirstLiteral() {
        checks.sentence("then by the first edit's first literal");
        LeastEdits xor = Designs.withInputs(2);
        xor.old(2, 2);
        xor.old(4, 4);
        xor.old(7, 9);
        xor.asked(2, 5);
        xor.asked(3, 4);
        xor.asked(13, 15);
        xor.output(11, 17);
        checks.due("two edits", xor.run(2), 2);
        checks.edit("the lesser first literal", xor, 0, 3, 2, 5);
        checks.edit("though it makes the second edit's greater", xor, 1, 4, 3, 4);
        LeastEdits one = Designs.withInputs(2);
        one.old(2, 4);
        one.old(2, 5);
        one.asked(2, 4);
        one.output(8, 10);
        one.keep(3, true);
        one.run(1);
        checks.edit("a lesser first with a greater second", one, 0, 4, 1, 6);
    }

    private static void firstByTheFirstEditsSecondLiteral() {
        checks.sentence("its second one");
        LeastEdits x = Designs.withInputs(3);
        x.old(2, 3);
        x.old(2, 3);
        x.asked(2, 4);
        x.asked(12, 6);
        x.output(10, 14);
        checks.due("two edits", x.run(2), 2);
        checks.edit("the lesser second literal", x, 0, 4, 2, 4);
        checks.edit("though it makes the second edit's greater", x, 1, 5, 6, 8);
    }

    private static void firstByTheSecondEditsFirstLiteral() {
        checks.sentence("then the second one's (its first literal)");
        LeastEdits x = Designs.withInputs(2);
        x.old(2, 3);
        x.old(2, 3);
        x.asked(2, 5);
        x.output(6, 10);
        x.output(8, 10);
        checks.due("two edits", x.run(2), 2);
        checks.edit("the one way", x, 0, 3, 2, 5);
        checks.edit("a lesser first with a greater second", x, 1, 4, 1, 6);
    }

    private static void firstByTheSecondEditsSecondLiteral() {
        checks.sentence("then the second one's (its second literal)");
        LeastEdits x = Designs.withInputs(2);
        x.old(2, 3);
        x.old(2, 3);
        x.asked(2, 4);
        x.asked(2, 5);
        x.output(6, 10);
        x.output(8, 12);
        checks.due("two edits", x.run(2), 2);
        checks.edit("the one way", x, 0, 3, 2, 4);
        checks.edit("5 before 7, which would be right, too", x, 1, 4, 2, 5);
    }

    private static void placesAtFirst() {
        checks.sentence("old ANDs have places, too (0, 0 at first)");
        LeastEdits x = Designs.oneEditAway();
        x.spare(-7, 9);
        x.run(1);
        checks.due("|dx| + |dy| from 0, 0", x.length(), 16);
        x.place(4, -1000, 1000);
        x.run(1);
        checks.due("|dx| + |dy| from another place", x.length(), 993 + 991);
        LeastEdits far = Designs.twoEditsAway();
        for (int k = 0; k < 6; k++) {
            far.spare(1000, 1000);
        }
        far.place(3, -1000, -1000);
        far.place(4, -1000, -1000);
        far.run(2);
        checks.due("as far as can be", far.length(), 8000);
    }

    private static void takingsGiveEachASpareOfItsOwn() {
        checks.sentence("to each of its edits a spare of its own");
        LeastEdits x = Designs.twoEditsAway();
        x.spare(0, 0);
        x.spare(1000, 1000);
        x.run(2);
        checks.due("both want spare 0: the first has it", x.used(0), 0);
        checks.due("the second has the other", x.used(1), 1);
        checks.due("far as it is", x.length(), 2000);
    }

    private static void takingsHaveTheLeastSum() {
        checks.sentence("the sum over edits of |dx| + |dy| from the AND's place to the spare's the least");
        LeastEdits x = Designs.twoEditsAway();
        x.place(4, 2, 0);
        x.spare(1, 0);
        x.spare(-1, 0);
        x.run(2);
        checks.due("not the lesser spare, but the lesser sum", x.used(0), 1);
        checks.due("the second edit has the lesser spare", x.used(1), 0);
        checks.due("the sum", x.length(), 2);
        LeastEdits last = Designs.twoEditsAway();
        for (int k = 0; k < 4; k++) {
            last.spare(9, 9);
        }
        last.spare(0, 1);
        last.spare(0, 2);
        last.place(4, 0, 1);
        last.place(3, 0, 2);
        last.run(2);
        checks.due("the last spare", last.used(0), 5);
        checks.due("the one before it", last.used(1), 4);
        checks.due("each at its place", last.length(), 0);
        LeastEdits turned = Designs.oneEditAway();
        turned.spare(3, 3);
        turned.spare(0, -5);
        turned.run(1);
        checks.due("|dx| + |dy|, not the greater of them", turned.used(0), 1);
    }

    private static void takingsOfOneEditTakeTheLesser() {
        checks.sentence("of several the one with the lesser spare for the first edit");
        LeastEdits x = Designs.oneEditAway();
        x.spare(3, 0);
        x.spare(0, -2);
        x.spare(1, 1);
        x.spare(-2, 0);
        x.run(1);
        checks.due("the first of the near ones", x.used(0), 1);
        checks.due("the sum", x.length(), 2);
    }

    private static void takingsOfTwoEditsTakeTheLesserFirst() {
        checks.sentence("of several the one with the lesser spare for the first edit, of two edits");
        LeastEdits x = Designs.twoEditsAway();
        x.spare(5, 0);
        x.spare(0, 2);
        x.spare(0, 3);
        x.spare(0, -2);
        x.run(2);
        checks.due("1 and 3, or 3 and 1: the lesser for the first", x.used(0), 1);
        checks.due("the greater for the second", x.used(1), 3);
        LeastEdits equal = Designs.twoEditsAway();
        for (int k = 0; k < 6; k++) {
            equal.spare(4, 4);
        }
        equal.run(2);
        checks.due("all at one place: the least", equal.used(0), 0);
        checks.due("all at one place: the next", equal.used(1), 1);
    }

    private static void takingsOfTwoEditsTakeTheLesserSecond() {
        checks.sentence("then for the second one");
        LeastEdits x = Designs.twoEditsAway();
        x.place(4, 10, 0);
        x.spare(0, 0);
        x.spare(13, 0);
        x.spare(12, 0);
        x.spare(10, 2);
        x.spare(8, 0);
        x.run(2);
        checks.due("its own place", x.used(0), 0);
        checks.due("the least of the near ones", x.used(1), 2);
        checks.due("the sum", x.length(), 2);
    }

    private static void noTakingWithFewerSpares() {
        checks.sentence("There is none if there are fewer spares than edits");
        LeastEdits one = Designs.oneEditAway();
        one.run(1);
        checks.due("one edit, no spares", one.length(), NONE);
        checks.due("one edit, no spares", one.used(0), NONE);
        one.spare(0, 0);
        one.run(1);
        checks.due("one edit, one spare", one.length(), 0);
        LeastEdits two = Designs.twoEditsAway();
        two.spare(0, 0);
        two.run(2);
        checks.due("two edits, one spare", two.length(), NONE);
        checks.due("two edits, one spare", two.used(0), NONE);
        checks.due("two edits, one spare", two.used(1), NONE);
        two.spare(0, 0);
        two.run(2);
        checks.due("two edits, two spares", two.length(), 0);
        LeastEdits none = new LeastEdits();
        none.run(0);
        checks.due("no edits, no spares: not fewer", none.length(), 0);
        none.spare(9, 9);
        none.run(0);
        checks.due("no edits take no spares", none.length(), 0);
    }
}
