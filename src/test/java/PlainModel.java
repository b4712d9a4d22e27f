import java.util.ArrayList;
import java.util.List;

/** The document word by word, with lists and without any short way: what LeastEdits is held against. */
final class PlainModel {
    static final int NONE = -1;

    private static final class Node {
        char kind;
        int input;
        int a;
        int b;
        boolean kept;
        long x;
        long y;
    }

    private final List<Node> nodes = new ArrayList<>();
    private final List<int[]> outputs = new ArrayList<>();
    private final List<long[]> spares = new ArrayList<>();
    private final List<List<int[]>> made = new ArrayList<>();
    /** The latest run's edits: node, first, second; null while nothing is run. */
    private List<int[]> found = null;

    PlainModel() {
        addNode('F');
    }

    private Node addNode(char kind) {
        Node node = new Node();
        node.kind = kind;
        nodes.add(node);
        return node;
    }

    private int number(char kind) {
        int number = 0;
        for (Node node : nodes) {
            if (node.kind == kind) {
                number++;
            }
        }
        return number;
    }

    private void needLiteral(int literal) {
        if (literal < 0 || literal / 2 >= nodes.size()) {
            throw new IndexOutOfBoundsException();
        }
    }

    private Node needOld(int node) {
        if (node < 0 || node >= nodes.size() || nodes.get(node).kind != 'O') {
            throw new IndexOutOfBoundsException();
        }
        return nodes.get(node);
    }

    private char kindOf(int literal) {
        return nodes.get(literal / 2).kind;
    }

    int input() {
        if (number('I') == 5 || number('O') > 0 || number('A') > 0) {
            throw new IllegalStateException();
        }
        int index = number('I');
        addNode('I').input = index;
        found = null;
        return 2 * (nodes.size() - 1);
    }

    int addAnd(char kind, int a, int b) {
        needLiteral(a);
        needLiteral(b);
        if (number(kind) == (kind == 'O' ? 8 : 24)) {
            throw new IllegalStateException();
        }
        char other = kind == 'O' ? 'A' : 'O';
        if (kindOf(a) == other || kindOf(b) == other) {
            throw new IllegalArgumentException();
        }
        Node node = addNode(kind);
        node.a = a;
        node.b = b;
        found = null;
        return 2 * (nodes.size() - 1);
    }

    int output(int mine, int due) {
        needLiteral(mine);
        needLiteral(due);
        if (outputs.size() == 4) {
            throw new IllegalStateException();
        }
        if (kindOf(mine) == 'A' || kindOf(due) == 'O') {
            throw new IllegalArgumentException();
        }
        outputs.add(new int[] {mine, due});
        found = null;
        return outputs.size() - 1;
    }

    private boolean holds(int literal, int assignment) {
        Node node = nodes.get(literal / 2);
        boolean is = false;
        if (node.kind == 'I') {
            is = (assignment >> node.input) % 2 != 0;
        } else if (node.kind != 'F') {
            is = holds(node.a, assignment) && holds(node.b, assignment);
        }
        return literal % 2 == 1 ? !is : is;
    }

    private int firstDifference(int literal, int other) {
        for (int s = 0; s < 1 << number('I'); s++) {
            if (holds(literal, s) != holds(other, s)) {
                return s;
            }
        }
        return NONE;
    }

    int value(int literal, int assignment) {
        needLiteral(literal);
        return holds(literal, assignment) ? 1 : 0;
    }

    int differing() {
        int differing = 0;
        for (int[] output : outputs) {
            if (firstDifference(output[0], output[1]) != NONE) {
                differing++;
            }
        }
        return differing;
    }

    int witness(int output) {
        if (output < 0 || output >= outputs.size()) {
            throw new IndexOutOfBoundsException();
        }
        return firstDifference(outputs.get(output)[0], outputs.get(output)[1]);
    }

    int matched(int literal) {
        needLiteral(literal);
        for (int other = 0; other < 2 * nodes.size(); other++) {
            if (kindOf(other) != 'A' && firstDifference(literal, other) == NONE) {
                return other;
            }
        }
        return NONE;
    }

    boolean keep(int node, boolean on) {
        Node and = needOld(node);
        boolean other = and.kept != on;
        and.kept = on;
        if (other) {
            found = null;
        }
        return other;
    }

    private void needNear(long x, long y) {
        if (x < -1000 || x > 1000 || y < -1000 || y > 1000) {
            throw new IllegalArgumentException();
        }
    }

    boolean place(int node, long x, long y) {
        Node and = needOld(node);
        needNear(x, y);
        boolean other = and.x != x || and.y != y;
        and.x = x;
        and.y = y;
        if (other) {
            found = null;
        }
        return other;
    }

    int spare(long x, long y) {
        if (spares.size() == 6) {
            throw new IllegalStateException();
        }
        needNear(x, y);
        spares.add(new long[] {x, y});
        found = null;
        return spares.size() - 1;
    }

    int run(int most) {
        if (most < 0 || most > 2) {
            throw new IllegalArgumentException();
        }
        found = null;
        for (int size = 0; size <= most && found == null; size++) {
            if (size == 0 && differing() == 0) {
                found = new ArrayList<>();
            } else if (size == 1) {
                tryOne();
            } else if (size == 2) {
                tryTwo();
            }
        }
        return found == null ? NONE : found.size();
    }

    private List<Integer> literalsBefore(int node) {
        List<Integer> literals = new ArrayList<>();
        for (int literal = 0; literal < 2 * node; literal++) {
            if (kindOf(literal) != 'A') {
                literals.add(literal);
            }
        }
        return literals;
    }

    /** All edits of an AND, by their first literals, then their second ones. */
    private List<int[]> editsOf(int node) {
        List<int[]> edits = new ArrayList<>();
        if (nodes.get(node).kind == 'O' && !nodes.get(node).kept) {
            for (int a : literalsBefore(node)) {
                for (int b : literalsBefore(node)) {
                    if (a <= b) {
                        edits.add(new int[] {node, a, b});
                    }
                }
            }
        }
        return edits;
    }

    private int[] exchange(int[] edit) {
        Node node = nodes.get(edit[0]);
        int[] before = {edit[0], node.a, node.b};
        node.a = edit[1];
        node.b = edit[2];
        return before;
    }

    /** The columns of all nodes at once, so that trying all sets ends in time. */
    private boolean isRight() {
        int[] columns = new int[nodes.size()];
        int every = number('I') == 5 ? -1 : (1 << (1 << number('I'))) - 1;
        int[] inputColumns = {0xAAAAAAAA, 0xCCCCCCCC, 0xF0F0F0F0, 0xFF00FF00, 0xFFFF0000};
        for (int n = 1; n < columns.length; n++) {
            Node node = nodes.get(n);
            columns[n] = node.kind == 'I' ? inputColumns[node.input]
                : of(columns, node.a) & of(columns, node.b);
        }
        for (int[] output : outputs) {
            if (((of(columns, output[0]) ^ of(columns, output[1])) & every) != 0) {
                return false;
            }
        }
        return true;
    }

    private static int of(int[] columns, int literal) {
        return literal % 2 == 1 ? ~columns[literal / 2] : columns[literal / 2];
    }

    private void tryOne() {
        for (int node = 0; node < nodes.size(); node++) {
            for (int[] edit : editsOf(node)) {
                int[] before = exchange(edit);
                boolean right = isRight();
                exchange(before);
                if (right) {
                    found = new ArrayList<>(List.of(edit));
                    return;
                }
            }
        }
    }

    private void tryTwo() {
        for (int node = 0; node < nodes.size(); node++) {
            for (int next = node + 1; next < nodes.size(); next++) {
                List<int[]> seconds = editsOf(next);
                for (int[] edit : editsOf(node)) {
                    int[] before = exchange(edit);
                    for (int[] second : seconds) {
                        int[] secondBefore = exchange(second);
                        boolean right = isRight();
                        exchange(secondBefore);
                        if (right) {
                            exchange(before);
                            found = new ArrayList<>(List.of(edit, second));
                            return;
                        }
                    }
                    exchange(before);
                }
            }
        }
    }

    private void needRun() {
        if (found == null) {
            throw new IllegalStateException();
        }
    }

    private void needEdit(int k) {
        if (k < 0 || k >= found.size()) {
            throw new IndexOutOfBoundsException();
        }
    }

    int edit(int k, int what) {
        if (what < 0 || what > 2) {
            throw new IndexOutOfBoundsException();
        }
        needRun();
        needEdit(k);
        return found.get(k)[what];
    }

    private long distance(int[] edit, int s) {
        Node node = nodes.get(edit[0]);
        return Math.abs(node.x - spares.get(s)[0]) + Math.abs(node.y - spares.get(s)[1]);
    }

    /** The sum, then the spares of the taking; null if there is none. */
    private long[] taking() {
        long[] best = null;
        int edits = found.size();
        for (int s = 0; s < (edits > 0 ? spares.size() : 1); s++) {
            for (int t = 0; t < (edits > 1 ? spares.size() : 1); t++) {
                if (edits == 2 && s == t) {
                    continue;
                }
                long sum = (edits > 0 ? distance(found.get(0), s) : 0)
                    + (edits > 1 ? distance(found.get(1), t) : 0);
                if (best == null || sum < best[0]) {
                    best = new long[] {sum, s, t};
                }
            }
        }
        return best;
    }

    int used(int k) {
        needRun();
        needEdit(k);
        long[] taking = taking();
        return taking == null ? NONE : (int) taking[1 + k];
    }

    int length() {
        needRun();
        long[] taking = taking();
        return taking == null ? NONE : (int) taking[0];
    }

    int make() {
        needRun();
        if (made.size() == 20) {
            throw new IllegalStateException();
        }
        List<int[]> before = new ArrayList<>();
        for (int[] edit : found) {
            before.add(exchange(edit));
        }
        made.add(before);
        found = null;
        return before.size();
    }

    boolean undo() {
        if (made.isEmpty()) {
            return false;
        }
        for (int[] edit : made.remove(made.size() - 1)) {
            exchange(edit);
        }
        found = null;
        return true;
    }

    int literal(int node, int which) {
        Node and = needOld(node);
        if (which < 0 || which > 1) {
            throw new IndexOutOfBoundsException();
        }
        return which == 0 ? and.a : and.b;
    }

    int count(int what) {
        if (what < 0 || what > 7) {
            throw new IndexOutOfBoundsException();
        }
        int kept = 0;
        for (Node node : nodes) {
            if (node.kept) {
                kept++;
            }
        }
        int[] counts = {nodes.size(), number('I'), number('O'), number('A'), outputs.size(),
            spares.size(), kept, made.size()};
        return counts[what];
    }

    void clear() {
        nodes.clear();
        addNode('F');
        outputs.clear();
        spares.clear();
        made.clear();
        found = null;
    }
}
