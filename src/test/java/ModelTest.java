import java.util.ArrayList;
import java.util.List;
import java.util.Random;

/** Long runs of chosen calls, each answer held against the plain model's. The seeds are fixed. */
public final class ModelTest {
    private static final int OBJECTS = 600;
    private static final int CALLS = 220;
    private static final int PAIRS = 3000;

    private static final class Step {
        final String name;
        final long[] with;

        Step(String name, long... with) {
            this.name = name;
            this.with = with;
        }

        int at(int index) {
            return (int) with[index];
        }

        @Override
        public String toString() {
            StringBuilder text = new StringBuilder(name).append('(');
            for (int i = 0; i < with.length; i++) {
                text.append(i == 0 ? "" : ", ").append(with[i]);
            }
            return text.append(')').toString();
        }
    }

    private static final Checks checks = new Checks();
    private static final int[] runsFound = new int[4];

    public static void main(String[] args) {
        for (int seed = 1; seed <= OBJECTS; seed++) {
            runOne(seed);
        }
        for (int seed = 1; seed <= PAIRS; seed++) {
            runPairAmongKept(seed);
        }
        System.out.println("runs that found nothing, 0, 1, 2 edits: " + runsFound[0] + ", "
            + runsFound[1] + ", " + runsFound[2] + ", " + runsFound[3]);
        for (int edits = 0; edits < 4; edits++) {
            checks.due("enough runs of kind " + edits, runsFound[edits] > 100, true);
        }
        checks.end();
    }

    private static void runOne(int seed) {
        Random random = new Random(seed);
        LeastEdits real = new LeastEdits();
        PlainModel model = new PlainModel();
        List<Step> steps = new ArrayList<>(design(random, model.count(0)));
        for (int i = 0; i < CALLS; i++) {
            Step step = i < steps.size() ? steps.get(i) : chosen(random, model);
            if (!answersAlike("seed " + seed + ", call " + i, real, model, step)) {
                return;
            }
        }
    }

    private static boolean answersAlike(String where, LeastEdits real, PlainModel model, Step step) {
        String got = answered(real, step);
        String want = answered(model, step);
        if (step.name.equals("run") && !want.startsWith("throws")) {
            runsFound[Integer.parseInt(want) + 1]++;
        }
        boolean alike = got.equals(want);
        checks.due(where + ", " + step + ": " + got + " for " + want, alike, true);
        return alike;
    }

    /** Two ANDs that may be edited and six kept ones after them, which make them matter together. */
    private static void runPairAmongKept(int seed) {
        Random random = new Random(-seed);
        LeastEdits real = new LeastEdits();
        PlainModel model = new PlainModel();
        for (Step step : pairAmongKept(random)) {
            if (!answersAlike("pair " + seed, real, model, step)) {
                return;
            }
        }
    }

    private static List<Step> pairAmongKept(Random random) {
        List<Step> steps = new ArrayList<>();
        int inputs = 1 + random.nextInt(3);
        for (int k = 0; k < inputs; k++) {
            steps.add(new Step("input"));
        }
        int firstOld = 1 + inputs;
        int firstAsked = firstOld + 8;
        List<Step> due = new ArrayList<>();
        for (int k = 0; k < 8; k++) {
            int literals = 2 * (firstOld + k);
            // Late ANDs look mostly at the pair and at what follows it.
            int least = k < 2 ? 0 : 2 * random.nextInt(firstOld + 1);
            int a = least + random.nextInt(literals - least);
            int b = least + random.nextInt(literals - least);
            steps.add(new Step("old", a, b));
            due.add(k < 2 ? new Step("asked", random.nextInt(2 * firstOld), random.nextInt(2 * firstOld))
                : new Step("asked", asAsked(a, firstOld), asAsked(b, firstOld)));
        }
        steps.addAll(due);
        for (int k = 2; k < 8; k++) {
            steps.add(new Step("keep", firstOld + k, 1));
        }
        for (int k = 1 + random.nextInt(4); k > 0; k--) {
            int of = 2 + random.nextInt(6);
            steps.add(new Step("output", 2 * (firstOld + of), 2 * (firstAsked + of)));
        }
        steps.add(new Step("run", 2));
        for (int k = 0; k < 2; k++) {
            for (int what = 0; what < 3; what++) {
                steps.add(new Step("edit", k, what));
            }
        }
        steps.add(new Step("make"));
        steps.add(new Step("differing"));
        return steps;
    }

    private static int asAsked(int literal, int firstOld) {
        return literal < 2 * firstOld ? literal : literal + 16;
    }

    /** An old design, and as what is asked a copy of it with up to three ANDs made other ones. */
    private static List<Step> design(Random random, int firstNode) {
        List<Step> steps = new ArrayList<>();
        boolean large = random.nextInt(20) == 0;
        int inputs = large ? 5 : random.nextInt(5);
        int olds = large ? 8 : 1 + random.nextInt(5);
        for (int k = 0; k < inputs; k++) {
            steps.add(new Step("input"));
        }
        int shared = firstNode + inputs;
        int changes = random.nextInt(4);
        boolean[] changed = new boolean[olds];
        for (int k = 0; k < changes; k++) {
            changed[random.nextInt(olds)] = true;
        }
        boolean mixed = random.nextBoolean();
        int[] oldNode = new int[olds];
        int[] askedNode = new int[olds];
        int[][] pairs = new int[olds][];
        for (int k = 0; k < olds; k++) {
            oldNode[k] = mixed ? shared + 2 * k : shared + k;
            askedNode[k] = mixed ? shared + 2 * k + 1 : shared + olds + k;
            pairs[k] = new int[] {random.nextInt(2 * (shared + k)), random.nextInt(2 * (shared + k))};
        }
        for (int n = 0; n < 2 * olds; n++) {
            int k = mixed ? n / 2 : n % olds;
            if (mixed ? n % 2 == 0 : n < olds) {
                steps.add(new Step("old", shifted(pairs[k][0], shared, oldNode),
                    shifted(pairs[k][1], shared, oldNode)));
            } else {
                int a = changed[k] ? random.nextInt(2 * (shared + k)) : pairs[k][0];
                int b = changed[k] ? random.nextInt(2 * (shared + k)) : pairs[k][1];
                steps.add(new Step("asked", shifted(a, shared, askedNode), shifted(b, shared, askedNode)));
            }
        }
        for (int k = random.nextInt(4); k >= 0; k--) {
            int of = Math.max(0, olds - 1 - random.nextInt(3));
            int turned = random.nextInt(2);
            steps.add(new Step("output", 2 * oldNode[of] + turned, 2 * askedNode[of] + turned));
        }
        steps.add(new Step("run", 2));
        return steps;
    }

    private static int shifted(int literal, int shared, int[] nodeOf) {
        return literal / 2 < shared ? literal : 2 * nodeOf[literal / 2 - shared] + literal % 2;
    }

    private static Step chosen(Random random, PlainModel model) {
        int nodes = model.count(0);
        int literal = random.nextInt(2 * nodes + 2) - (random.nextInt(20) == 0 ? 3 : 0);
        int other = random.nextInt(2 * nodes);
        int node = random.nextInt(nodes + 1) - (random.nextInt(20) == 0 ? 2 : 0);
        switch (random.nextInt(40)) {
            case 0:
                return new Step("input");
            case 1:
                return new Step(model.count(2) < 6 || random.nextInt(9) == 0 ? "old" : "length", literal, other);
            case 2:
                return new Step("asked", literal, other);
            case 3:
                return new Step("output", literal, other);
            case 4:
                return new Step(random.nextInt(8) == 0 ? "clear" : "differing");
            case 5, 6, 7:
                return new Step("value", literal, random.nextInt());
            case 8:
                return new Step("differing");
            case 9:
                return new Step("witness", random.nextInt(6) - 1);
            case 10, 11:
                return new Step("matched", literal);
            case 12, 13:
                return new Step("keep", node, random.nextInt(3) == 0 ? 1 : 0);
            case 14:
                return new Step("place", node, coordinate(random), coordinate(random));
            case 15:
                return new Step("spare", coordinate(random), coordinate(random));
            case 16, 17, 18, 19, 20:
                return new Step("run", random.nextInt(16) == 0 ? random.nextInt(6) - 2 : 2 - random.nextInt(5) / 2);
            case 21, 22, 23, 24, 25:
                return new Step("edit", random.nextInt(3) - random.nextInt(2), random.nextInt(4) - random.nextInt(2));
            case 26, 27, 28:
                return new Step("used", random.nextInt(3) - random.nextInt(2));
            case 29, 30:
                return new Step("length");
            case 31, 32:
                return new Step("make");
            case 33:
                return new Step("undo");
            case 34, 35, 36:
                return new Step("literal", node, random.nextInt(3) - random.nextInt(2));
            default:
                return new Step("count", random.nextInt(10) - 1);
        }
    }

    /** Mostly near ones, so that sums are equal; sometimes the edges. */
    private static long coordinate(Random random) {
        long[] edges = {1000, 1001, -1000, -1001, Long.MAX_VALUE, Long.MIN_VALUE, 1L << 32};
        return random.nextInt(12) == 0 ? edges[random.nextInt(edges.length)] : random.nextInt(5) - 2;
    }

    private static String answered(LeastEdits x, Step step) {
        try {
            return String.valueOf(answer(x, step));
        } catch (RuntimeException thrown) {
            return "throws." + thrown.getClass().getSimpleName();
        }
    }

    private static String answered(PlainModel x, Step step) {
        try {
            return String.valueOf(answer(x, step));
        } catch (RuntimeException thrown) {
            return "throws." + thrown.getClass().getSimpleName();
        }
    }

    private static long answer(LeastEdits x, Step step) {
        switch (step.name) {
            case "input": return x.input();
            case "old": return x.old(step.at(0), step.at(1));
            case "asked": return x.asked(step.at(0), step.at(1));
            case "output": return x.output(step.at(0), step.at(1));
            case "value": return x.value(step.at(0), step.at(1));
            case "differing": return x.differing();
            case "witness": return x.witness(step.at(0));
            case "matched": return x.matched(step.at(0));
            case "keep": return x.keep(step.at(0), step.at(1) == 1) ? 1 : 0;
            case "place": return x.place(step.at(0), step.with[1], step.with[2]) ? 1 : 0;
            case "spare": return x.spare(step.with[0], step.with[1]);
            case "run": return x.run(step.at(0));
            case "edit": return x.edit(step.at(0), step.at(1));
            case "used": return x.used(step.at(0));
            case "length": return x.length();
            case "make": return x.make();
            case "undo": return x.undo() ? 1 : 0;
            case "literal": return x.literal(step.at(0), step.at(1));
            case "count": return x.count(step.at(0));
            default:
                x.clear();
                return 0;
        }
    }

    private static long answer(PlainModel x, Step step) {
        switch (step.name) {
            case "input": return x.input();
            case "old": return x.addAnd('O', step.at(0), step.at(1));
            case "asked": return x.addAnd('A', step.at(0), step.at(1));
            case "output": return x.output(step.at(0), step.at(1));
            case "value": return x.value(step.at(0), step.at(1));
            case "differing": return x.differing();
            case "witness": return x.witness(step.at(0));
            case "matched": return x.matched(step.at(0));
            case "keep": return x.keep(step.at(0), step.at(1) == 1) ? 1 : 0;
            case "place": return x.place(step.at(0), step.with[1], step.with[2]) ? 1 : 0;
            case "spare": return x.spare(step.with[0], step.with[1]);
            case "run": return x.run(step.at(0));
            case "edit": return x.edit(step.at(0), step.at(1));
            case "used": return x.used(step.at(0));
            case "length": return x.length();
            case "make": return x.make();
            case "undo": return x.undo() ? 1 : 0;
            case "literal": return x.literal(step.at(0), step.at(1));
            case "count": return x.count(step.at(0));
            default:
                x.clear();
                return 0;
        }
    }
}
