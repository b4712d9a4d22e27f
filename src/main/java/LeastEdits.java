/**
 * An old design of ANDs that is to become what is asked with the fewest edits.
 *
 * A literal's values in all assignments are held as one int, its column: bit s is the value in
 * assignment s. Columns always have 32 bits. Where there are fewer than 5 inputs they repeat, so
 * that comparing whole columns, their least differing bit and any bit of them stay right.
 */
public final class LeastEdits {
    public static final int NONE = -1;

    private static final int MOST_INPUTS = 5;
    private static final int MOST_OLD = 8;
    private static final int MOST_ASKED = 24;
    private static final int MOST_OUTPUTS = 4;
    private static final int MOST_SPARES = 6;
    private static final int MOST_MADE = 20;
    private static final int MOST_EDITS = 2;
    private static final int FARTHEST = 1000;

    private static final int MOST_OWN = 1 + MOST_INPUTS + MOST_OLD;
    private static final int MOST_NODES = MOST_OWN + MOST_ASKED;

    private static final int ASSIGNMENTS = 32;
    private static final int NOWHERE = 0;
    private static final int EVERYWHERE = -1;

    /** FALSE and the inputs, which are nodes for both designs. */
    private static final int BOTH = 0;
    private static final int OLD = 1;
    private static final int ASKED = 2;

    private static final int[] INPUT_COLUMNS = {
        0xAAAAAAAA, 0xCCCCCCCC, 0xF0F0F0F0, 0xFF00FF00, 0xFFFF0000
    };

    private final Net net;
    private final Goals goals;
    private final Board board;
    private final Search search;
    private final Taking taking;
    private final Past past;

    /** How many edits the latest run has; NONE while NOTHING IS RUN. */
    private int ran;

    public LeastEdits() {
        net = new Net();
        goals = new Goals();
        board = new Board();
        search = new Search(net, goals);
        taking = new Taking(board);
        past = new Past();
        ran = NONE;
    }

    public int input() throws IllegalStateException {
        if (net.inputs >= MOST_INPUTS || net.olds + net.askeds > 0) {
            throw new IllegalStateException("there are 5 inputs, or an AND");
        }
        ran = NONE;
        return net.addInput();
    }

    public int old(int a, int b)
            throws IndexOutOfBoundsException, IllegalStateException, IllegalArgumentException {
        if (!net.hasLiteral(a) || !net.hasLiteral(b)) {
            throw new IndexOutOfBoundsException("no such literal");
        }
        if (net.olds >= MOST_OLD) {
            throw new IllegalStateException("there are 8 old ANDs");
        }
        if (net.isOf(ASKED, a) || net.isOf(ASKED, b)) {
            throw new IllegalArgumentException("a literal is of an asked AND");
        }
        ran = NONE;
        board.putAtOrigin(net.nodes);
        return net.addOld(a, b);
    }

    public int asked(int a, int b)
            throws IndexOutOfBoundsException, IllegalStateException, IllegalArgumentException {
        if (!net.hasLiteral(a) || !net.hasLiteral(b)) {
            throw new IndexOutOfBoundsException("no such literal");
        }
        if (net.askeds >= MOST_ASKED) {
            throw new IllegalStateException("there are 24 asked ANDs");
        }
        if (net.isOf(OLD, a) || net.isOf(OLD, b)) {
            throw new IllegalArgumentException("a literal is of an old AND");
        }
        ran = NONE;
        return net.addAsked(a, b);
    }

    public int output(int mine, int due)
            throws IndexOutOfBoundsException, IllegalStateException, IllegalArgumentException {
        if (!net.hasLiteral(mine) || !net.hasLiteral(due)) {
            throw new IndexOutOfBoundsException("no such literal");
        }
        if (goals.size >= MOST_OUTPUTS) {
            throw new IllegalStateException("there are 4 outputs");
        }
        if (net.isOf(ASKED, mine) || net.isOf(OLD, due)) {
            throw new IllegalArgumentException("a literal is of the other design");
        }
        ran = NONE;
        return goals.add(mine, due);
    }

    public int value(int literal, int assignment) throws IndexOutOfBoundsException {
        if (!net.hasLiteral(literal)) {
            throw new IndexOutOfBoundsException("no such literal");
        }
        int bit = assignment & (ASSIGNMENTS - 1);
        return column(net.columns, literal) >>> bit & 1;
    }

    public int differing() {
        int differing = 0;
        for (int output = 0; output < goals.size; output++) {
            if (goals.difference(net.columns, output) != NOWHERE) {
                differing++;
            }
        }
        return differing;
    }

    public int witness(int output) throws IndexOutOfBoundsException {
        if (output < 0 || output >= goals.size) {
            throw new IndexOutOfBoundsException("no such output");
        }
        return leastBit(goals.difference(net.columns, output));
    }

    public int matched(int literal) throws IndexOutOfBoundsException {
        if (!net.hasLiteral(literal)) {
            throw new IndexOutOfBoundsException("no such literal");
        }
        return net.leastOwnLiteralOf(column(net.columns, literal));
    }

    public boolean keep(int node, boolean on) throws IndexOutOfBoundsException {
        if (!net.isOldNode(node)) {
            throw new IndexOutOfBoundsException("no such old AND");
        }
        if (net.kept[node] == on) {
            return false;
        }
        net.kept[node] = on;
        ran = NONE;
        return true;
    }

    public boolean place(int node, long x, long y)
            throws IndexOutOfBoundsException, IllegalArgumentException {
        if (!net.isOldNode(node)) {
            throw new IndexOutOfBoundsException("no such old AND");
        }
        if (isTooFar(x) || isTooFar(y)) {
            throw new IllegalArgumentException("x or y is not -1000 .. 1000");
        }
        if (!board.moveNode(node, (int) x, (int) y)) {
            return false;
        }
        ran = NONE;
        return true;
    }

    public int spare(long x, long y) throws IllegalStateException, IllegalArgumentException {
        if (board.spares >= MOST_SPARES) {
            throw new IllegalStateException("there are 6 spares");
        }
        if (isTooFar(x) || isTooFar(y)) {
            throw new IllegalArgumentException("x or y is not -1000 .. 1000");
        }
        ran = NONE;
        return board.addSpare((int) x, (int) y);
    }

    public int run(int most) throws IllegalArgumentException {
        if (most < 0 || most > MOST_EDITS) {
            throw new IllegalArgumentException("most is not 0 .. 2");
        }
        ran = search.fewestEdits(most);
        if (ran != NONE) {
            taking.take(search.edits, ran);
        }
        return ran;
    }

    public int edit(int k, int what) throws IndexOutOfBoundsException, IllegalStateException {
        if (what < 0 || what > 2) {
            throw new IndexOutOfBoundsException("no such what");
        }
        if (ran == NONE) {
            throw new IllegalStateException("nothing is run");
        }
        if (k < 0 || k >= ran) {
            throw new IndexOutOfBoundsException("no such edit");
        }
        Edit found = search.edits[k];
        return what == 0 ? found.node : what == 1 ? found.first : found.second;
    }

    public int used(int k) throws IllegalStateException, IndexOutOfBoundsException {
        if (ran == NONE) {
            throw new IllegalStateException("nothing is run");
        }
        if (k < 0 || k >= ran) {
            throw new IndexOutOfBoundsException("no such edit");
        }
        return taking.spareOf[k];
    }

    public int length() throws IllegalStateException {
        if (ran == NONE) {
            throw new IllegalStateException("nothing is run");
        }
        return taking.sum;
    }

    public int make() throws IllegalStateException {
        if (ran == NONE || past.made >= MOST_MADE) {
            throw new IllegalStateException("nothing is run, or 20 were made");
        }
        int making = ran;
        past.remember(net, search.edits, making);
        for (int k = 0; k < making; k++) {
            net.rewire(search.edits[k]);
        }
        net.refreshOldColumns();
        ran = NONE;
        return making;
    }

    public boolean undo() {
        if (past.made == 0) {
            return false;
        }
        past.takeBackLast(net);
        net.refreshOldColumns();
        ran = NONE;
        return true;
    }

    public int literal(int node, int which) throws IndexOutOfBoundsException {
        if (!net.isOldNode(node) || which < 0 || which > 1) {
            throw new IndexOutOfBoundsException("no such old AND, or no such literal of it");
        }
        return which == 0 ? net.first[node] : net.second[node];
    }

    public int count(int what) throws IndexOutOfBoundsException {
        switch (what) {
            case 0:
                return net.nodes;
            case 1:
                return net.inputs;
            case 2:
                return net.olds;
            case 3:
                return net.askeds;
            case 4:
                return goals.size;
            case 5:
                return board.spares;
            case 6:
                return net.keptNodes();
            case 7:
                return past.made;
            default:
                throw new IndexOutOfBoundsException("no such what");
        }
    }

    public void clear() {
        net.reset();
        goals.size = 0;
        board.spares = 0;
        past.made = 0;
        ran = NONE;
    }

    private static boolean isTooFar(long coordinate) {
        return coordinate < -FARTHEST || coordinate > FARTHEST;
    }

    private static int column(int[] columns, int literal) {
        return columns[literal >> 1] ^ -(literal & 1);
    }

    private static int leastBit(int column) {
        for (int bit = 0; bit < ASSIGNMENTS; bit++) {
            if ((column >>> bit & 1) == 1) {
                return bit;
            }
        }
        return NONE;
    }

    /** The nodes of both designs. */
    private static final class Net {
        final int[] kind;
        final int[] first;
        final int[] second;
        final int[] columns;
        final boolean[] kept;
        /** The nodes of the old design in order: FALSE, the inputs, the old ANDs. */
        final int[] own;
        int nodes;
        int inputs;
        int olds;
        int askeds;

        Net() {
            kind = new int[MOST_NODES];
            first = new int[MOST_NODES];
            second = new int[MOST_NODES];
            columns = new int[MOST_NODES];
            kept = new boolean[MOST_NODES];
            own = new int[MOST_OWN];
            nodes = 1;
        }

        /** Node 0 is never written after the rows are made, so it stays FALSE. */
        void reset() {
            nodes = 1;
            inputs = 0;
            olds = 0;
            askeds = 0;
        }

        boolean hasLiteral(int literal) {
            return literal >= 0 && literal < 2 * nodes;
        }

        boolean isOf(int wanted, int literal) {
            return kind[literal >> 1] == wanted;
        }

        boolean isOldNode(int node) {
            return node >= 0 && node < nodes && kind[node] == OLD;
        }

        /** Where the old ANDs begin among the old design's own nodes. */
        int firstOld() {
            return 1 + inputs;
        }

        int owned() {
            return 1 + inputs + olds;
        }

        /** The literals of the old design by their order: the n-th one. */
        int ownLiteral(int n) {
            return 2 * own[n >> 1] + (n & 1);
        }

        int addInput() {
            int node = nodes;
            own[owned()] = node;
            kind[node] = BOTH;
            columns[node] = INPUT_COLUMNS[inputs];
            inputs++;
            nodes++;
            return 2 * node;
        }

        int addOld(int a, int b) {
            own[owned()] = nodes;
            kept[nodes] = false;
            olds++;
            return addAnd(OLD, a, b);
        }

        int addAsked(int a, int b) {
            askeds++;
            return addAnd(ASKED, a, b);
        }

        private int addAnd(int design, int a, int b) {
            int node = nodes;
            kind[node] = design;
            first[node] = a;
            second[node] = b;
            columns[node] = column(columns, a) & column(columns, b);
            nodes++;
            return 2 * node;
        }

        void rewire(Edit edit) {
            first[edit.node] = edit.first;
            second[edit.node] = edit.second;
        }

        void refreshOldColumns() {
            for (int n = firstOld(); n < owned(); n++) {
                int node = own[n];
                columns[node] = column(columns, first[node]) & column(columns, second[node]);
            }
        }

        int keptNodes() {
            int keptNodes = 0;
            for (int n = firstOld(); n < owned(); n++) {
                if (kept[own[n]]) {
                    keptNodes++;
                }
            }
            return keptNodes;
        }

        int leastOwnLiteralOf(int column) {
            for (int n = 0; n < 2 * owned(); n++) {
                if (column(columns, ownLiteral(n)) == column) {
                    return ownLiteral(n);
                }
            }
            return NONE;
        }
    }

    /** The outputs: what each is in the old design, and what it is due to be. */
    private static final class Goals {
        final int[] mine;
        final int[] due;
        int size;

        Goals() {
            mine = new int[MOST_OUTPUTS];
            due = new int[MOST_OUTPUTS];
        }

        int add(int mineLiteral, int dueLiteral) {
            mine[size] = mineLiteral;
            due[size] = dueLiteral;
            size++;
            return size - 1;
        }

        /** Both literals turned, or neither, make no difference; only one of them turns it all. */
        int difference(int[] columns, int output) {
            int turned = (mine[output] ^ due[output]) & 1;
            return columns[mine[output] >> 1] ^ columns[due[output] >> 1] ^ -turned;
        }

        /** The assignments in which no output differs. */
        int agreement(int[] columns) {
            int differences = NOWHERE;
            for (int output = 0; output < size; output++) {
                differences |= difference(columns, output);
            }
            return ~differences;
        }
    }

    /** The literals that an AND gets, or those that it had. */
    private static final class Edit {
        int node;
        int first;
        int second;

        void put(int ofNode, int firstLiteral, int secondLiteral) {
            node = ofNode;
            first = firstLiteral;
            second = secondLiteral;
        }
    }

    /**
     * The search for the first right set. In each assignment by itself, what an edit does to the
     * outputs hangs on its AND's value there alone. So for the ANDs to be edited it is enough to
     * know in which assignments the outputs agree if they are 0 there, or 1.
     */
    private static final class Search {
        final Net net;
        final Goals goals;
        final Edit[] edits;
        /** The columns of all nodes while some old ANDs are set to columns of the search. */
        final int[] trial;
        /** The same columns by the order of the old design's own literals. */
        final int[] shown;

        Search(Net net, Goals goals) {
            this.net = net;
            this.goals = goals;
            edits = new Edit[MOST_EDITS];
            for (int k = 0; k < MOST_EDITS; k++) {
                edits[k] = new Edit();
            }
            trial = new int[MOST_NODES];
            shown = new int[2 * MOST_OWN];
        }

        int fewestEdits(int most) {
            showAsItIs();
            if (goals.agreement(trial) == EVERYWHERE) {
                return 0;
            }
            if (most >= 1 && findOne()) {
                return 1;
            }
            if (most >= 2 && findTwo()) {
                return 2;
            }
            return NONE;
        }

        private void showAsItIs() {
            System.arraycopy(net.columns, 0, trial, 0, net.nodes);
            for (int n = 0; n < net.owned(); n++) {
                show(n, net.columns[net.own[n]]);
            }
        }

        private void show(int n, int column) {
            trial[net.own[n]] = column;
            shown[2 * n] = column;
            shown[2 * n + 1] = ~column;
        }

        private boolean findOne() {
            for (int n = net.firstOld(); n < net.owned(); n++) {
                if (!net.kept[net.own[n]]) {
                    int ok0 = agreementWith(n, NOWHERE, n, NOWHERE);
                    int ok1 = agreementWith(n, EVERYWHERE, n, EVERYWHERE);
                    if (findLiterals(n, ok0, ok1, edits[0])) {
                        return true;
                    }
                }
            }
            return false;
        }

        private boolean findTwo() {
            for (int n = net.firstOld(); n < net.owned(); n++) {
                for (int m = n + 1; m < net.owned(); m++) {
                    if (!net.kept[net.own[n]] && !net.kept[net.own[m]] && findPair(n, m)) {
                        return true;
                    }
                }
            }
            return false;
        }

        private boolean findPair(int n, int m) {
            int ok00 = agreementWith(n, NOWHERE, m, NOWHERE);
            int ok01 = agreementWith(n, NOWHERE, m, EVERYWHERE);
            int ok10 = agreementWith(n, EVERYWHERE, m, NOWHERE);
            int ok11 = agreementWith(n, EVERYWHERE, m, EVERYWHERE);
            if ((ok00 | ok01 | ok10 | ok11) != EVERYWHERE) {
                return false;
            }
            for (int a = 0; a < 2 * n; a++) {
                for (int b = a; b < 2 * n; b++) {
                    int set = shown[a] & shown[b];
                    int ok0 = set & ok10 | ~set & ok00;
                    int ok1 = set & ok11 | ~set & ok01;
                    if ((ok0 | ok1) == EVERYWHERE) {
                        setAndSpread(n, set, n, set);
                        if (findLiterals(m, ok0, ok1, edits[1])) {
                            edits[0].put(net.own[n], net.ownLiteral(a), net.ownLiteral(b));
                            return true;
                        }
                    }
                }
            }
            return false;
        }

        /**
         * The first two literals for own node n that make it 0 only where that is right (ok0) and
         * 1 only where that is right (ok1), with the nodes before it as they are shown.
         */
        private boolean findLiterals(int n, int ok0, int ok1, Edit found) {
            if ((ok0 | ok1) != EVERYWHERE) {
                return false;
            }
            for (int a = 0; a < 2 * n; a++) {
                // An AND is 0 wherever one of its literals is: no partner mends that.
                if ((~shown[a] & ~ok0) == NOWHERE) {
                    int b = findPartner(n, a, ok0, ok1);
                    if (b != NONE) {
                        found.put(net.own[n], net.ownLiteral(a), net.ownLiteral(b));
                        return true;
                    }
                }
            }
            return false;
        }

        private int findPartner(int n, int a, int ok0, int ok1) {
            for (int b = a; b < 2 * n; b++) {
                int both = shown[a] & shown[b];
                if ((both & ~ok1 | ~both & ~ok0) == NOWHERE) {
                    return b;
                }
            }
            return NONE;
        }

        private int agreementWith(int n, int setN, int m, int setM) {
            setAndSpread(n, setN, m, setM);
            return goals.agreement(trial);
        }

        private void setAndSpread(int n, int setN, int m, int setM) {
            for (int r = net.firstOld(); r < net.owned(); r++) {
                if (r == n) {
                    show(r, setN);
                } else if (r == m) {
                    show(r, setM);
                } else {
                    int node = net.own[r];
                    show(r, column(trial, net.first[node]) & column(trial, net.second[node]));
                }
            }
        }
    }

    /** Where the old ANDs and the spares lie. */
    private static final class Board {
        final int[] nodeX;
        final int[] nodeY;
        final int[] spareX;
        final int[] spareY;
        int spares;

        Board() {
            nodeX = new int[MOST_NODES];
            nodeY = new int[MOST_NODES];
            spareX = new int[MOST_SPARES];
            spareY = new int[MOST_SPARES];
        }

        void putAtOrigin(int node) {
            nodeX[node] = 0;
            nodeY[node] = 0;
        }

        boolean moveNode(int node, int x, int y) {
            boolean isOther = nodeX[node] != x || nodeY[node] != y;
            nodeX[node] = x;
            nodeY[node] = y;
            return isOther;
        }

        int addSpare(int x, int y) {
            spareX[spares] = x;
            spareY[spares] = y;
            spares++;
            return spares - 1;
        }

        int distance(int node, int s) {
            return Math.abs(nodeX[node] - spareX[s]) + Math.abs(nodeY[node] - spareY[s]);
        }
    }

    /** Which spares the edits of a run take. */
    private static final class Taking {
        final Board board;
        final int[] spareOf;
        int sum;

        Taking(Board board) {
            this.board = board;
            spareOf = new int[MOST_EDITS];
        }

        void take(Edit[] edits, int size) {
            spareOf[0] = NONE;
            spareOf[1] = NONE;
            sum = size == 0 ? 0 : NONE;
            // With fewer spares than edits both loops below offer nothing.
            if (size == 1) {
                takeForOne(edits[0].node);
            } else if (size == 2) {
                takeForTwo(edits[0].node, edits[1].node);
            }
        }

        private void takeForOne(int node) {
            for (int s = 0; s < board.spares; s++) {
                offer(board.distance(node, s), s, NONE);
            }
        }

        private void takeForTwo(int node, int next) {
            for (int s = 0; s < board.spares; s++) {
                for (int t = 0; t < board.spares; t++) {
                    if (s != t) {
                        offer(board.distance(node, s) + board.distance(next, t), s, t);
                    }
                }
            }
        }

        /** Offers come in the order in which the first of several equal ones is to be taken. */
        private void offer(int offered, int s, int t) {
            if (sum == NONE || offered < sum) {
                sum = offered;
                spareOf[0] = s;
                spareOf[1] = t;
            }
        }
    }

    /** What was made and not undone: for each making the literals that its ANDs had before. */
    private static final class Past {
        final Edit[] before;
        final int[] sizes;
        int made;

        Past() {
            before = new Edit[MOST_MADE * MOST_EDITS];
            for (int row = 0; row < MOST_MADE * MOST_EDITS; row++) {
                before[row] = new Edit();
            }
            sizes = new int[MOST_MADE];
        }

        void remember(Net net, Edit[] edits, int size) {
            for (int k = 0; k < size; k++) {
                int node = edits[k].node;
                before[made * MOST_EDITS + k].put(node, net.first[node], net.second[node]);
            }
            sizes[made] = size;
            made++;
        }

        void takeBackLast(Net net) {
            made--;
            for (int k = 0; k < sizes[made]; k++) {
                net.rewire(before[made * MOST_EDITS + k]);
            }
        }
    }
}
