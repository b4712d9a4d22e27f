/** Small designs that several tests begin with. */
final class Designs {
    private Designs() {
    }

    static LeastEdits withInputs(int inputs) {
        LeastEdits x = new LeastEdits();
        for (int k = 0; k < inputs; k++) {
            x.input();
        }
        return x;
    }

    /** Inputs 2, 4, 6; old 8 = 2 & 4, old 10 = 8 & 6; asked 12 = 2 & 6; output 10 due 12. */
    static LeastEdits oneEditAway() {
        LeastEdits x = withInputs(3);
        x.old(2, 4);
        x.old(8, 6);
        x.asked(2, 6);
        x.output(10, 12);
        return x;
    }

    /** Inputs 2, 4; old 6 = 2 & 4, old 8 = 2 & 5; outputs 6 due FALSE's turned, 8 due 4. */
    static LeastEdits twoEditsAway() {
        LeastEdits x = withInputs(2);
        x.old(2, 4);
        x.old(2, 5);
        x.output(6, 1);
        x.output(8, 4);
        return x;
    }

    /** Inputs 2, 4; 8 old ANDs, nodes 3 .. 10; 24 asked ones, nodes 11 .. 34; 4 outputs, 6 spares. */
    static LeastEdits full() {
        LeastEdits x = withInputs(2);
        for (int k = 0; k < 8; k++) {
            x.old(2, 4);
        }
        for (int k = 0; k < 24; k++) {
            x.asked(2, 4);
        }
        for (int k = 0; k < 4; k++) {
            x.output(6, 22);
        }
        for (int k = 0; k < 6; k++) {
            x.spare(k, 0);
        }
        return x;
    }

    static void makeNothing(LeastEdits x, int times) {
        for (int k = 0; k < times; k++) {
            x.run(0);
            x.make();
        }
    }
}
