/** For each promise of the document: ordinary inputs, the edges that it names, wrong inputs. */
public final class PromiseTest {
    private static final int NONE = LeastEdits.NONE;
    private static final Checks checks = new Checks();

    public static void main(String[] args) {
        promise1NewObject();
        promise2Input();
        promise3Old();
        promise4Asked();
        promise5Output();
        promise6Value();
        promise7Differing();
        promise8Witness();
        promise9Matched();
        promise10Keep();
        promise11Place();
        promise12Spare();
        promise13RunNoneAndOne();
        promise13RunTwo();
        promise13RunOrder();
        promise13RunOfThree();
        promise13RunThatFindsNothing();
        promise14Edit();
        promise15Used();
        promise16Length();
        promise17Make();
        promise18Undo();
        promise19Literal();
        promise20Count();
        promise21Clear();
        fullDesign();
        fullPast();
        changesEndARun();
        throwingChangesNothing();
        checks.end();
    }

    private static long one(boolean answer) {
        return answer ? 1 : 0;
    }

    private static void promise1NewObject() {
        LeastEdits x = new LeastEdits();
        checks.due("nodes of a new object", x.count(0), 1);
        for (int what = 1; what <= 7; what++) {
            checks.due("count(" + what + ") of a new object", x.count(what), 0);
        }
        checks.due("FALSE", x.value(0, 0), 0);
        checks.due("FALSE turned", x.value(1, 0), 1);
        checks.due("differing of a new object", x.differing(), 0);
        checks.due("undo of a new object", x.undo(), false);
        checks.state("length of a new object", () -> x.length());
        checks.bounds("value of node 1", () -> x.value(2, 0));
    }

    private static void promise2Input() {
        LeastEdits x = new LeastEdits();
        for (int k = 1; k <= 5; k++) {
            checks.due("input " + k, x.input(), 2 * k);
        }
        checks.state("a sixth input", () -> x.input());
        checks.due("inputs", x.count(1), 5);
        LeastEdits withOld = Designs.withInputs(1);
        withOld.old(2, 2);
        checks.state("an input after an old AND", () -> withOld.input());
        LeastEdits withAsked = Designs.withInputs(1);
        withAsked.asked(2, 2);
        checks.state("an input after an asked AND", () -> withAsked.input());
        LeastEdits withOutput = Designs.withInputs(1);
        withOutput.output(2, 0);
        checks.due("an input after an output", withOutput.input(), 4);
    }

    private static void promise3Old() {
        LeastEdits x = Designs.withInputs(2);
        checks.due("first old AND", x.old(2, 4), 6);
        checks.due("asked AND between", x.asked(3, 0), 8);
        checks.due("old AND of an old one, FALSE too", x.old(7, 1), 10);
        checks.bounds("old of no literal", () -> x.old(12, 2));
        checks.bounds("old of its own literal", () -> x.old(2, 13));
        checks.bounds("old of a negative literal", () -> x.old(-1, 2));
        checks.bounds("old of a least literal", () -> x.old(2, Integer.MIN_VALUE));
        checks.bounds("no literal comes before an asked one", () -> x.old(8, 12));
        checks.argument("old of an asked literal", () -> x.old(8, 2));
        checks.argument("old of a turned asked literal", () -> x.old(2, 9));
        for (int k = 2; k < 8; k++) {
            x.old(2, 4);
        }
        checks.due("old ANDs", x.count(2), 8);
        checks.state("a ninth old AND", () -> x.old(2, 4));
        checks.state("a ninth of an asked one", () -> x.old(8, 2));
        checks.bounds("a ninth of no literal", () -> x.old(99, 2));
    }

    private static void promise4Asked() {
        LeastEdits x = Designs.withInputs(2);
        x.old(2, 4);
        checks.due("first asked AND", x.asked(5, 3), 8);
        checks.due("asked AND of an asked one", x.asked(9, 0), 10);
        checks.bounds("asked of no literal", () -> x.asked(12, 2));
        checks.bounds("asked of a negative literal", () -> x.asked(2, -2));
        checks.argument("asked of an old literal", () -> x.asked(6, 2));
        checks.argument("asked of a turned old literal", () -> x.asked(2, 7));
        for (int k = 2; k < 24; k++) {
            checks.due("asked AND " + k, x.asked(8, 2), 8 + 2 * k);
        }
        checks.state("a 25th asked AND", () -> x.asked(2, 4));
        checks.state("a 25th of an old one", () -> x.asked(6, 2));
        checks.bounds("a 25th of no literal", () -> x.asked(2, 99));
        checks.due("nodes", x.count(0), 28);
    }

    private static void promise5Output() {
        LeastEdits x = Designs.withInputs(2);
        x.old(2, 4);
        x.asked(2, 5);
        checks.bounds("output of no literal", () -> x.output(10, 2));
        checks.bounds("output due no literal", () -> x.output(2, 10));
        checks.bounds("output of a negative one", () -> x.output(-1, 2));
        checks.argument("output of an asked one", () -> x.output(8, 2));
        checks.argument("output due an old one", () -> x.output(2, 7));
        checks.due("output of an old one", x.output(6, 9), 0);
        checks.due("output of FALSE", x.output(0, 1), 1);
        checks.due("output of an input", x.output(3, 4), 2);
        checks.due("the same output", x.output(6, 9), 3);
        checks.state("a fifth output", () -> x.output(2, 4));
        checks.state("a fifth output of an asked one", () -> x.output(8, 4));
        checks.bounds("a fifth output of no literal", () -> x.output(2, 10));
        checks.due("outputs", x.count(4), 4);
    }

    private static void promise6Value() {
        LeastEdits x = Designs.withInputs(5);
        x.old(2, 5);
        x.asked(6, 9);
        for (int s = 0; s < 32; s++) {
            for (int k = 0; k < 5; k++) {
                checks.due("input " + k + " in " + s, x.value(2 * k + 2, s), s >> k & 1);
                checks.due("input " + k + " turned in " + s, x.value(2 * k + 3, s), 1 - (s >> k & 1));
            }
            checks.due("old AND in " + s, x.value(12, s), (s & 1) & ~(s >> 1) & 1);
            checks.due("asked AND turned in " + s, x.value(15, s), 1 - ((s >> 2) & ~(s >> 3) & 1));
        }
        checks.due("bits beyond the inputs", x.value(2, 32 + 64), 0);
        checks.due("all bits", x.value(10, -1), 1);
        checks.bounds("value of no literal", () -> x.value(16, 0));
        checks.bounds("value of a negative literal", () -> x.value(-1, 0));
        LeastEdits few = Designs.withInputs(2);
        few.old(2, 4);
        checks.due("bits of inputs that there are not", few.value(6, 4 + 3), 1);
        checks.due("the same, not both", few.value(6, 28 + 1), 0);
        checks.due("a negative assignment", few.value(6, -4), 0);
    }

    private static void promise7Differing() {
        LeastEdits x = Designs.withInputs(2);
        x.old(2, 4);
        x.asked(4, 2);
        checks.due("no outputs", x.differing(), 0);
        x.output(6, 8);
        checks.due("the same by other literals", x.differing(), 0);
        x.output(6, 9);
        checks.due("one differs", x.differing(), 1);
        x.output(2, 4);
        x.output(0, 1);
        checks.due("three differ", x.differing(), 3);
    }

    private static void promise8Witness() {
        LeastEdits x = Designs.withInputs(3);
        x.old(2, 4);
        x.asked(6, 2);
        x.output(6, 6);
        x.output(8, 2);
        x.output(8, 10);
        x.output(0, 1);
        checks.due("witness of one that does not differ", x.witness(0), NONE);
        checks.due("witness", x.witness(1), 1);
        checks.due("witness where the old one is 1 alone", x.witness(2), 3);
        checks.due("witness in each assignment", x.witness(3), 0);
        checks.bounds("witness of no output", () -> x.witness(4));
        checks.bounds("witness of a negative one", () -> x.witness(-1));
        LeastEdits far = Designs.withInputs(5);
        far.old(2, 4);
        far.old(12, 6);
        far.old(14, 8);
        far.old(16, 10);
        far.output(18, 0);
        checks.due("the last assignment", far.witness(0), 31);
        LeastEdits bare = new LeastEdits();
        bare.output(1, 0);
        checks.due("without inputs", bare.witness(0), 0);
    }

    private static void promise9Matched() {
        LeastEdits x = Designs.withInputs(2);
        x.asked(2, 3);
        x.asked(2, 5);
        x.old(2, 5);
        x.old(4, 4);
        x.asked(4, 3);
        checks.due("asked that is FALSE", x.matched(6), 0);
        checks.due("asked that is TRUE", x.matched(7), 1);
        checks.due("asked that an old AND is", x.matched(8), 10);
        checks.due("asked that an old AND is turned", x.matched(9), 11);
        checks.due("old that an input is", x.matched(12), 4);
        checks.due("old turned that an input is turned", x.matched(13), 5);
        checks.due("old itself", x.matched(10), 10);
        checks.due("asked that none is", x.matched(14), NONE);
        checks.bounds("matched of no literal", () -> x.matched(16));
        checks.bounds("matched of a negative one", () -> x.matched(-1));
    }

    private static void promise10Keep() {
        LeastEdits x = Designs.oneEditAway();
        checks.due("not kept before", x.keep(4, false), false);
        checks.due("kept", x.keep(4, true), true);
        checks.due("kept again", x.keep(4, true), false);
        checks.due("kept ones", x.count(6), 1);
        checks.due("no longer kept", x.keep(4, false), true);
        checks.due("kept ones", x.count(6), 0);
        checks.bounds("an asked one", () -> one(x.keep(6, true)));
        checks.bounds("an input", () -> one(x.keep(3, true)));
        checks.bounds("FALSE", () -> one(x.keep(0, true)));
        checks.bounds("no node", () -> one(x.keep(7, true)));
        checks.bounds("a negative node", () -> one(x.keep(-1, false)));
        x.keep(5, true);
        checks.due("with the last one kept", x.run(2), 1);
        checks.edit("with the last one kept", x, 0, 4, 1, 2);
        x.keep(4, true);
        checks.due("with all kept", x.run(2), NONE);
    }

    private static void promise11Place() {
        LeastEdits x = Designs.oneEditAway();
        checks.due("the place at first", x.place(4, 0, 0), false);
        checks.due("another x", x.place(4, 1000, 0), true);
        checks.due("another y", x.place(4, 1000, -1000), true);
        checks.due("the same place", x.place(4, 1000, -1000), false);
        checks.due("the other one's place", x.place(5, 0, 0), false);
        checks.argument("x too large", () -> one(x.place(4, 1001, 0)));
        checks.argument("x too small", () -> one(x.place(4, -1001, 0)));
        checks.argument("y too large", () -> one(x.place(4, 0, 1001)));
        checks.argument("y too small", () -> one(x.place(4, 0, -1001)));
        checks.argument("x beyond an int", () -> one(x.place(4, 1L << 32, 0)));
        checks.argument("y beyond an int", () -> one(x.place(4, 0, Long.MIN_VALUE)));
        checks.bounds("an asked one, too far", () -> one(x.place(6, 2000, 0)));
        checks.bounds("an input", () -> one(x.place(1, 0, 0)));
        checks.bounds("no node", () -> one(x.place(7, 0, 0)));
        checks.bounds("a negative node", () -> one(x.place(-1, 0, 0)));
    }

    private static void promise12Spare() {
        LeastEdits x = new LeastEdits();
        checks.argument("x too large", () -> x.spare(1001, 0));
        checks.argument("y too small", () -> x.spare(0, -1001));
        checks.argument("y beyond an int", () -> x.spare(0, -(1L << 32)));
        for (int k = 0; k < 6; k++) {
            checks.due("spare " + k, x.spare(1000, -1000), k);
        }
        checks.state("a seventh spare", () -> x.spare(0, 0));
        checks.state("a seventh spare too far", () -> x.spare(1001, 0));
        checks.due("spares", x.count(5), 6);
    }

    private static void promise13RunNoneAndOne() {
        LeastEdits x = Designs.oneEditAway();
        checks.argument("fewer than none", () -> x.run(-1));
        checks.argument("more than two", () -> x.run(3));
        checks.due("no edits are not enough", x.run(0), NONE);
        checks.due("one edit", x.run(1), 1);
        checks.edit("one edit", x, 0, 4, 1, 2);
        checks.due("no more than the least number", x.run(2), 1);
        LeastEdits same = Designs.withInputs(1);
        same.old(2, 2);
        same.output(6 - 2, 2);
        for (int most = 0; most <= 2; most++) {
            checks.due("nothing differs, " + most + " at most", same.run(most), 0);
        }
        LeastEdits never = Designs.withInputs(1);
        never.old(2, 2);
        never.output(2, 3);
        checks.due("an output of an input", never.run(2), NONE);
    }

    private static void promise13RunTwo() {
        LeastEdits x = Designs.twoEditsAway();
        checks.due("one is not enough", x.run(1), NONE);
        checks.due("two edits", x.run(2), 2);
        checks.edit("two edits", x, 0, 3, 1, 1);
        checks.edit("two edits", x, 1, 4, 1, 4);
        x.keep(3, true);
        checks.due("one of the two is kept", x.run(2), NONE);
        LeastEdits xor = Designs.withInputs(2);
        xor.old(2, 2);
        xor.old(4, 4);
        xor.old(7, 9);
        xor.asked(2, 5);
        xor.asked(3, 4);
        xor.asked(13, 15);
        xor.output(11, 17);
        checks.due("exclusive or", xor.run(2), 2);
        checks.edit("exclusive or", xor, 0, 3, 2, 5);
        checks.edit("exclusive or", xor, 1, 4, 3, 4);
    }

    /** The edits' ANDs come before their literals, a lesser AND before lesser literals. */
    private static void promise13RunOrder() {
        LeastEdits x = Designs.withInputs(1);
        x.old(2, 2);
        x.old(2, 2);
        x.output(4, 3);
        x.output(6, 3);
        checks.due("both are due one thing", x.run(2), 2);
        checks.edit("the least literals", x, 0, 2, 1, 3);
        checks.edit("the least literals", x, 1, 3, 1, 3);
        LeastEdits chain = Designs.withInputs(2);
        chain.old(2, 4);
        chain.asked(2, 5);
        chain.old(6, 6);
        chain.output(10, 8);
        checks.due("the lesser AND is edited", chain.run(1), 1);
        checks.edit("the lesser AND", chain, 0, 3, 2, 5);
        chain.keep(3, true);
        checks.due("the greater AND is edited", chain.run(1), 1);
        checks.edit("the greater AND", chain, 0, 5, 2, 5);
        LeastEdits between = Designs.withInputs(3);
        between.old(2, 4);
        between.asked(2, 4);
        between.asked(10, 6);
        between.old(8, 8);
        between.output(14, 12);
        checks.due("one edit", between.run(1), 1);
        checks.edit("an old literal, not the asked ones between", between, 0, 7, 6, 8);
    }

    private static void promise13RunOfThree() {
        LeastEdits x = Designs.withInputs(3);
        x.old(2, 3);
        x.old(2, 3);
        x.old(2, 3);
        x.asked(2, 4);
        x.asked(14, 6);
        x.output(12, 16);
        checks.due("all of the three inputs", x.run(2), 2);
        checks.edit("the second one of the first one", x, 0, 4, 2, 4);
        checks.edit("the second one of the first one", x, 1, 6, 6, 8);
        x.keep(4, true);
        checks.due("without the first", x.run(2), 2);
        checks.edit("without the first", x, 0, 5, 2, 4);
        checks.edit("without the first", x, 1, 6, 6, 10);
        x.keep(4, false);
        x.keep(6, true);
        checks.due("without the last", x.run(2), NONE);
        LeastEdits neighbours = Designs.withInputs(1);
        neighbours.old(2, 2);
        neighbours.old(2, 2);
        neighbours.old(2, 2);
        neighbours.output(6, 0);
        neighbours.output(8, 0);
        checks.due("the last two", neighbours.run(2), 2);
        checks.edit("the last two", neighbours, 0, 3, 0, 0);
        checks.edit("the last two", neighbours, 1, 4, 0, 0);
        neighbours.output(5, 1);
        checks.due("three are needed", neighbours.run(2), NONE);
    }

    private static void promise13RunThatFindsNothing() {
        LeastEdits x = Designs.withInputs(3);
        x.old(2, 4);
        x.old(2, 4);
        x.output(10, 0);
        checks.due("FALSE for one", x.run(1), 1);
        checks.edit("FALSE for one", x, 0, 5, 0, 0);
        x.asked(2, 4);
        x.asked(12, 6);
        x.output(8, 14);
        checks.due("no AND of the inputs is that", x.run(2), NONE);
        x.output(2, 4);
        checks.due("an input never gets another", x.run(2), NONE);
        LeastEdits itself = Designs.withInputs(4);
        itself.old(2, 2);
        itself.old(2, 4);
        itself.asked(2, 4);
        itself.asked(14, 6);
        itself.asked(16, 8);
        itself.output(12, 18);
        checks.due("an AND is none of the nodes before it", itself.run(2), NONE);
        LeastEdits bare = new LeastEdits();
        bare.output(0, 1);
        checks.due("no ANDs at all", bare.run(2), NONE);
        bare.old(0, 0);
        bare.output(2, 1);
        bare.output(2, 0);
        checks.due("one AND due two things", bare.run(2), NONE);
    }

    private static void promise14Edit() {
        LeastEdits x = Designs.oneEditAway();
        checks.bounds("no such what, nothing run", () -> x.edit(0, 3));
        checks.state("nothing run", () -> x.edit(9, 0));
        x.run(2);
        checks.edit("after a run", x, 0, 4, 1, 2);
        checks.bounds("no such what", () -> x.edit(0, 3));
        checks.bounds("a negative what", () -> x.edit(0, -1));
        checks.bounds("no such edit", () -> x.edit(1, 0));
        checks.bounds("a negative edit", () -> x.edit(-1, 0));
        x.run(0);
        checks.state("the latest run found nothing", () -> x.edit(0, 0));
    }

    private static void promise15Used() {
        LeastEdits x = Designs.twoEditsAway();
        checks.state("nothing run", () -> x.used(9));
        x.run(2);
        checks.due("no spares", x.used(0), NONE);
        checks.bounds("no such edit without a taking", () -> x.used(2));
        x.spare(0, 5);
        x.run(2);
        checks.due("fewer spares than edits", x.used(0), NONE);
        checks.due("fewer spares than edits", x.used(1), NONE);
        x.spare(0, 5);
        x.run(2);
        checks.due("of equal ones the lesser first", x.used(0), 0);
        checks.due("of equal ones the other", x.used(1), 1);
        x.spare(4, 0);
        x.place(3, 4, 1);
        x.run(2);
        checks.due("the nearest", x.used(0), 2);
        checks.due("the lesser of the others", x.used(1), 0);
        x.place(3, 0, 0);
        x.run(2);
        checks.due("of equal sums the lesser for the first", x.used(0), 0);
        checks.due("of equal sums the second's", x.used(1), 2);
        checks.bounds("no such edit", () -> x.used(2));
        checks.bounds("a negative edit", () -> x.used(-1));
    }

    private static void promise16Length() {
        LeastEdits x = Designs.twoEditsAway();
        checks.state("nothing run", () -> x.length());
        x.run(2);
        checks.due("no spares", x.length(), NONE);
        x.place(3, -1000, 1000);
        x.place(4, 1000, -1000);
        x.spare(1000, -1000);
        x.spare(-1000, 1000);
        x.run(2);
        checks.due("each at its place", x.length(), 0);
        checks.due("crosswise", x.used(0), 1);
        x.place(3, 1000, -1000);
        x.run(2);
        checks.due("one of them far", x.length(), 4000);
        LeastEdits none = new LeastEdits();
        none.run(0);
        checks.due("no edits, no spares", none.length(), 0);
        LeastEdits single = Designs.oneEditAway();
        single.place(4, 3, -4);
        single.spare(-10, 10);
        single.spare(-3, 0);
        single.spare(3, 6);
        single.run(1);
        checks.due("|dx| + |dy|", single.length(), 10);
        checks.due("the lesser of equal ones", single.used(0), 1);
        single.place(4, -10, 9);
        single.run(1);
        checks.due("the first spare", single.used(0), 0);
        checks.due("to the first spare", single.length(), 1);
    }

    private static void promise17Make() {
        LeastEdits x = Designs.twoEditsAway();
        checks.state("nothing run", () -> x.make());
        x.run(1);
        checks.state("the run found nothing", () -> x.make());
        x.run(2);
        checks.due("two are made", x.make(), 2);
        checks.due("nothing differs", x.differing(), 0);
        checks.due("the value of a made one", x.value(8, 1), 0);
        checks.state("nothing is run since", () -> x.make());
        checks.due("made once", x.count(7), 1);
        for (int k = 2; k <= 20; k++) {
            checks.due("no edits", x.run(2), 0);
            checks.due("none are made", x.make(), 0);
        }
        checks.due("made 20 times", x.count(7), 20);
        x.run(0);
        checks.state("a 21st making", () -> x.make());
        checks.due("the run stands", x.length(), 0);
        x.undo();
        x.run(0);
        checks.due("a place for it again", x.make(), 0);
    }

    private static void promise18Undo() {
        LeastEdits x = Designs.twoEditsAway();
        checks.due("nothing was made", x.undo(), false);
        x.run(2);
        x.make();
        x.run(0);
        x.make();
        x.old(7, 9);
        x.keep(3, true);
        checks.due("the value after making", x.value(10, 0), 0);
        checks.due("none are undone", x.undo(), true);
        checks.due("still made", x.literal(3, 0), 1);
        checks.due("two are undone", x.undo(), true);
        checks.due("as it was, the kept one too", x.literal(3, 0), 2);
        checks.due("as it was", x.literal(3, 1), 4);
        checks.due("as it was", x.literal(4, 0), 2);
        checks.due("as it was", x.literal(4, 1), 5);
        checks.due("an AND of them", x.value(10, 0), 1);
        checks.due("they differ again", x.differing(), 2);
        checks.due("nothing is left", x.undo(), false);
        LeastEdits twice = Designs.oneEditAway();
        twice.run(1);
        twice.make();
        twice.output(8, 0);
        checks.due("another run", twice.run(2), 2);
        twice.make();
        twice.undo();
        checks.due("as the first making left it", twice.literal(4, 0), 1);
        checks.due("as the first making left it", twice.literal(4, 1), 2);
        twice.undo();
        checks.due("as it was at first", twice.literal(4, 0), 2);
        checks.due("as it was at first", twice.literal(4, 1), 4);
    }

    private static void promise19Literal() {
        LeastEdits x = Designs.withInputs(2);
        x.old(4, 3);
        x.asked(2, 4);
        x.output(6, 8);
        checks.due("first as given", x.literal(3, 0), 4);
        checks.due("second as given", x.literal(3, 1), 3);
        x.run(1);
        checks.due("first before making", x.literal(3, 0), 4);
        x.make();
        checks.due("first now", x.literal(3, 0), 2);
        checks.due("second now", x.literal(3, 1), 4);
        checks.bounds("no such which", () -> x.literal(3, 2));
        checks.bounds("a negative which", () -> x.literal(3, -1));
        checks.bounds("an asked one", () -> x.literal(4, 0));
        checks.bounds("an input", () -> x.literal(2, 0));
        checks.bounds("no node", () -> x.literal(5, 0));
        checks.bounds("a negative node", () -> x.literal(-1, 0));
    }

    private static void promise20Count() {
        LeastEdits x = Designs.oneEditAway();
        x.asked(2, 2);
        x.asked(2, 2);
        x.output(2, 2);
        x.spare(0, 0);
        x.keep(5, true);
        x.run(1);
        x.make();
        int[] due = {9, 3, 2, 3, 2, 1, 1, 1};
        for (int what = 0; what <= 7; what++) {
            checks.due("count(" + what + ")", x.count(what), due[what]);
        }
        x.undo();
        checks.due("made after undo", x.count(7), 0);
        checks.bounds("no such what", () -> x.count(8));
        checks.bounds("a negative what", () -> x.count(-1));
    }

    private static void promise21Clear() {
        LeastEdits x = Designs.oneEditAway();
        x.keep(5, true);
        x.place(4, 5, 5);
        x.spare(1, 1);
        x.run(1);
        x.make();
        x.run(0);
        x.clear();
        checks.due("nodes", x.count(0), 1);
        for (int what = 1; what <= 7; what++) {
            checks.due("count(" + what + ") after clear", x.count(what), 0);
        }
        checks.state("nothing is run", () -> x.length());
        checks.due("nothing to undo", x.undo(), false);
        checks.due("nothing differs", x.differing(), 0);
        checks.bounds("no output", () -> x.witness(0));
        checks.bounds("no literal", () -> x.value(2, 0));
        checks.bounds("no old AND to keep", () -> one(x.keep(4, true)));
        checks.bounds("no old AND to place", () -> one(x.place(5, 0, 0)));
        checks.bounds("no literals", () -> x.literal(4, 0));
        checks.due("an empty run after clear", x.run(2), 0);
        checks.due("without taking", x.length(), 0);
        LeastEdits next = new LeastEdits();
        next.old(0, 0);
        next.keep(1, true);
        next.output(2, 1);
        next.clear();
        checks.bounds("the next node's old AND is gone", () -> one(next.keep(1, false)));
        checks.due("kept ones are gone", next.count(6), 0);
        checks.due("outputs are gone", next.differing(), 0);
        checks.due("an input after clear", x.input(), 2);
        x.input();
        x.input();
        x.old(2, 4);
        x.old(8, 6);
        checks.due("not kept after clear", x.keep(5, false), false);
        checks.due("at 0, 0 after clear", x.place(4, 0, 0), false);
        checks.due("a spare after clear", x.spare(0, 0), 0);
    }

    /** Old ANDs 12 .. 26 of input 2 and one of the others; asked 28 .. 74, more inputs in each. */
    private static LeastEdits fullDesignDue(int due) {
        LeastEdits x = Designs.withInputs(5);
        for (int k = 0; k < 8; k++) {
            x.old(2, 4 + 2 * (k % 4));
        }
        x.asked(2, 4);
        for (int k = 1; k < 24; k++) {
            x.asked(26 + 2 * k, 4 + 2 * (k % 4));
        }
        for (int k = 0; k < 4; k++) {
            x.output(26, due);
        }
        return x;
    }

    private static void fullDesign() {
        LeastEdits five = fullDesignDue(74);
        checks.due("nodes", five.count(0), 38);
        checks.due("kept ones", five.count(6), 0);
        checks.due("the last literal where all inputs are 1", five.value(74, 31), 1);
        checks.due("the last literal turned where one is 0", five.value(75, 30), 1);
        checks.due("matched by none", five.matched(74), NONE);
        checks.due("all outputs differ", five.differing(), 4);
        checks.due("the first witness", five.witness(3), 17);
        checks.due("two edits do not make it of five inputs", five.run(2), NONE);
        LeastEdits four = fullDesignDue(32);
        checks.due("two edits make it of four inputs", four.run(2), 2);
        checks.edit("of four inputs", four, 0, 6, 4, 6);
        checks.edit("of four inputs", four, 1, 13, 12, 16);
        four.make();
        checks.due("made right", four.differing(), 0);
        checks.due("matched by the last old AND", four.matched(32), 26);
        four.undo();
        checks.due("undone", four.differing(), 4);
        for (int node = 6; node <= 13; node++) {
            four.keep(node, true);
        }
        checks.due("all kept", four.count(6), 8);
        checks.due("none to edit", four.run(2), NONE);
    }

    private static void fullPast() {
        LeastEdits x = Designs.withInputs(2);
        x.old(2, 4);
        x.old(2, 5);
        for (int k = 1; k < 20; k++) {
            x.run(0);
            x.make();
        }
        x.output(6, 1);
        x.output(8, 4);
        x.run(2);
        checks.due("the 20th making has two edits", x.make(), 2);
        checks.due("nothing differs", x.differing(), 0);
        for (int k = 20; k > 0; k--) {
            checks.due("made and not undone", x.count(7), k);
            checks.due("undone", x.undo(), true);
            checks.due("all differ again", x.differing(), 2);
        }
        checks.due("nothing is left to undo", x.undo(), false);
    }

    private static void stillRun(String what, LeastEdits x) {
        checks.due(what + " leaves the run", x.length(), 0);
    }

    private static void noLongerRun(String what, LeastEdits x) {
        checks.state(what + " ends the run", () -> x.length());
        x.run(0);
    }

    private static void changesEndARun() {
        LeastEdits x = new LeastEdits();
        x.run(0);
        x.input();
        noLongerRun("input", x);
        x.old(2, 2);
        noLongerRun("old", x);
        x.asked(2, 2);
        noLongerRun("asked", x);
        x.output(2, 2);
        noLongerRun("output", x);
        x.keep(2, false);
        stillRun("keep false", x);
        x.keep(2, true);
        noLongerRun("keep true", x);
        x.place(2, 0, 0);
        stillRun("place false", x);
        x.place(2, 0, 1);
        noLongerRun("place true", x);
        x.spare(0, 0);
        noLongerRun("spare", x);
        x.undo();
        stillRun("undo false", x);
        x.make();
        noLongerRun("make", x);
        x.undo();
        noLongerRun("undo true", x);
        x.value(2, 0);
        x.differing();
        x.witness(0);
        x.matched(2);
        x.literal(2, 0);
        x.count(0);
        stillRun("a question", x);
        x.clear();
        noLongerRun("clear", x);
    }

    private static void throwingChangesNothing() {
        LeastEdits x = Designs.withInputs(1);
        x.old(2, 2);
        x.asked(2, 2);
        x.run(0);
        checks.state("input", () -> x.input());
        checks.argument("old", () -> x.old(6, 2));
        checks.argument("asked", () -> x.asked(4, 2));
        checks.argument("output", () -> x.output(6, 2));
        checks.argument("place", () -> one(x.place(2, 9, 1001)));
        checks.argument("spare", () -> x.spare(0, 1001));
        checks.bounds("keep", () -> one(x.keep(3, true)));
        checks.argument("run", () -> x.run(3));
        stillRun("a call that throws", x);
        checks.due("nodes", x.count(0), 4);
        checks.due("outputs", x.count(4), 0);
        checks.due("spares", x.count(5), 0);
        checks.due("the place", x.place(2, 0, 0), false);
    }
}
