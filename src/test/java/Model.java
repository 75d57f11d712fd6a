import java.util.ArrayList;
import java.util.HashSet;
import java.util.List;
import java.util.Set;
import java.util.TreeSet;
import java.util.function.IntUnaryOperator;

/** The document's words in their slowest form, written apart from the program, to compare it with. */
final class Model {
    static final class Bad extends Exception {
        private static final long serialVersionUID = 1L;
    }

    static final class Edge {
        int from;
        int to;
        char kind;
        int variable;
        IntUnaryOperator value;
    }

    final int width;
    final int states;
    String line = "";
    final List<Edge> edges = new ArrayList<>();
    final List<boolean[]> predicates = new ArrayList<>();
    final List<int[]> nodes = new ArrayList<>();
    List<Integer> path = null;
    final List<Integer> inputs = new ArrayList<>();
    int outcome = -1;
    private int place;

    Model(int w) {
        int lowest = ((w % 4) + 4) % 4;
        width = lowest == 3 ? 3 : lowest + 1;
        states = (int) Math.pow(2, 3 * width);
    }

    int power() {
        return (int) Math.pow(2, width);
    }

    int[] split(int state) {
        int p = power();
        return new int[] {state % p, state / p % p, state / p / p};
    }

    int join(int[] xyz) {
        int p = power();
        return xyz[0] + xyz[1] * p + xyz[2] * p * p;
    }

    int type(char c) {
        if (c < 32 || c > 126 || line.length() == 24) {
            return -1;
        }
        line += c;
        return line.length();
    }

    // ---- reading

    private char peek() {
        return place < line.length() ? line.charAt(place) : '\0';
    }

    private IntUnaryOperator part(int deep) throws Bad {
        char c = peek();
        place++;
        if (c >= '0' && c <= '7') {
            int n = (c - '0') % power();
            return s -> n;
        }
        int v = "xyz".indexOf(c);
        if (v >= 0) {
            return s -> split(s)[v];
        }
        if (c != '(' || deep == 4) {
            throw new Bad();
        }
        IntUnaryOperator inside = term(deep + 1);
        if (peek() != ')') {
            throw new Bad();
        }
        place++;
        return inside;
    }

    private IntUnaryOperator term(int deep) throws Bad {
        IntUnaryOperator sum = part(deep);
        while (peek() != '\0' && "+-*&^".indexOf(peek()) >= 0) {
            char c = peek();
            place++;
            IntUnaryOperator left = sum;
            IntUnaryOperator right = part(deep);
            sum = s -> {
                int a = left.applyAsInt(s);
                int b = right.applyAsInt(s);
                int r = c == '+' ? a + b : c == '-' ? a - b : c == '*' ? a * b : c == '&' ? a & b : a ^ b;
                return Math.floorMod(r, power());
            };
        }
        return sum;
    }

    private IntUnaryOperator atom() throws Bad {
        IntUnaryOperator left = term(0);
        char c = peek();
        place++;
        if (c != '<' && c != '=' && c != '#') {
            throw new Bad();
        }
        IntUnaryOperator right = term(0);
        ended();
        return s -> {
            int a = left.applyAsInt(s);
            int b = right.applyAsInt(s);
            return (c == '<' ? a < b : c == '=' ? a == b : a != b) ? 1 : 0;
        };
    }

    private void ended() throws Bad {
        if (place != line.length()) {
            throw new Bad();
        }
    }

    private Edge readEdge() throws Bad {
        if (!line.matches("[A-L][A-L] .*")) {
            throw new Bad();
        }
        Edge e = new Edge();
        e.from = line.charAt(0) - 'A';
        e.to = line.charAt(1) - 'A';
        String action = line.substring(3);
        e.variable = action.isEmpty() ? -1 : "xyz".indexOf(action.charAt(0));
        if (action.matches("[xyz][?]")) {
            e.kind = '?';
        } else if (action.matches("[xyz]:.*")) {
            e.kind = ':';
            place = 5;
            e.value = term(0);
            ended();
        } else {
            e.kind = 'a';
            place = 3;
            e.value = atom();
        }
        return e;
    }

    // ---- what changes

    private void noSearch() {
        nodes.clear();
        path = null;
        inputs.clear();
        outcome = -1;
    }

    int edge() {
        Edge e;
        try {
            e = readEdge();
        } catch (Bad bad) {
            throw new IllegalArgumentException();
        }
        if (edges.size() == 20) {
            throw new IllegalStateException();
        }
        edges.add(e);
        line = "";
        noSearch();
        return edges.size() - 1;
    }

    int predicate() {
        IntUnaryOperator value;
        try {
            place = 0;
            value = atom();
        } catch (Bad bad) {
            throw new IllegalArgumentException();
        }
        if (predicates.size() == 12) {
            throw new IllegalStateException();
        }
        predicates.add(setOf(value));
        line = "";
        noSearch();
        return predicates.size() - 1;
    }

    void clear() {
        line = "";
        edges.clear();
        predicates.clear();
        noSearch();
    }

    int prove(int fuel) {
        if (fuel < 1 || fuel > 40) {
            throw new IllegalArgumentException();
        }
        int made = 0;
        do {
            round();
            made++;
        } while (outcome == 0 && made < fuel);
        return outcome;
    }

    // ---- what is asked

    int signature(int state) {
        int sum = 0;
        for (int p = 0; p < predicates.size(); p++) {
            sum += predicates.get(p)[state] ? (int) Math.pow(2, p) : 0;
        }
        return sum;
    }

    int follow(Edge e, int state, int input) {
        int[] xyz = split(state);
        if (e.kind == 'a') {
            return e.value.applyAsInt(state) == 1 ? state : -1;
        }
        xyz[e.variable] = e.kind == ':' ? e.value.applyAsInt(state) : Math.floorMod(input, power());
        return join(xyz);
    }

    private boolean[] setOf(IntUnaryOperator value) {
        boolean[] set = new boolean[states];
        for (int s = 0; s < states; s++) {
            set[s] = value.applyAsInt(s) == 1;
        }
        return set;
    }

    private boolean splits(boolean[] set) {
        Set<Integer> in = new HashSet<>();
        Set<Integer> out = new HashSet<>();
        for (int s = 0; s < states; s++) {
            (set[s] ? in : out).add(signature(s));
        }
        in.retainAll(out);
        return !in.isEmpty();
    }

    // ---- a round

    private void round() {
        noSearch();
        if (!search()) {
            outcome = 3;
            return;
        }
        int last = nodes.size() - 1;
        if (nodes.get(last)[0] != 1) {
            outcome = 1;
            return;
        }
        path = new ArrayList<>();
        for (int n = last; n != 0; n = nodes.get(n)[2]) {
            path.add(0, nodes.get(n)[3]);
        }
        if (run(0, 0, new HashSet<>())) {
            outcome = 2;
            return;
        }
        outcome = refine() ? 0 : 3;
    }

    private boolean search() {
        int[] sig = new int[states];
        for (int s = 0; s < states; s++) {
            sig[s] = signature(s);
        }
        nodes.add(new int[] {0, sig[0], -1, -1});
        for (int n = 0; n < nodes.size(); n++) {
            for (int e = 0; e < edges.size(); e++) {
                Edge edge = edges.get(e);
                if (edge.from != nodes.get(n)[0]) {
                    continue;
                }
                TreeSet<Integer> reached = new TreeSet<>();
                for (int s = 0; s < states; s++) {
                    for (int v = 0; sig[s] == nodes.get(n)[1] && v < power(); v++) {
                        int t = follow(edge, s, v);
                        if (t != -1) {
                            reached.add(sig[t]);
                        }
                    }
                }
                for (int r : reached) {
                    if (nodes.stream().anyMatch(x -> x[0] == edge.to && x[1] == r)) {
                        continue;
                    }
                    if (nodes.size() == 200) {
                        return false;
                    }
                    nodes.add(new int[] {edge.to, r, n, e});
                    if (edge.to == 1) {
                        return true;
                    }
                }
            }
        }
        return true;
    }

    /** Tries the inputs in their order, so the first run that comes through has the least ones. */
    private boolean run(int k, int state, Set<Integer> dead) {
        if (k == path.size()) {
            return true;
        }
        if (dead.contains(k * 512 + state)) {
            return false;
        }
        Edge e = edges.get(path.get(k));
        for (int v = 0; v < (e.kind == '?' ? power() : 1); v++) {
            int t = follow(e, state, v);
            if (e.kind == '?') {
                inputs.add(v);
            }
            if (t != -1 && run(k + 1, t, dead)) {
                return true;
            }
            if (e.kind == '?') {
                inputs.remove(inputs.size() - 1);
            }
        }
        dead.add(k * 512 + state);
        return false;
    }

    private boolean refine() {
        List<boolean[]> taken = new ArrayList<>();
        int before = predicates.size();
        for (int k = path.size() - 1; k >= 0; k--) {
            Edge e = edges.get(path.get(k));
            if (e.kind == 'a') {
                taken.add(setOf(e.value));
            } else if (e.kind == ':') {
                taken.replaceAll(set -> setOf(s -> set[follow(e, s, 0)] ? 1 : 0));
            } else {
                taken.removeIf(set -> makesDifference(e, set));
            }
            for (boolean[] set : taken) {
                if (splits(set)) {
                    if (predicates.size() == 12) {
                        return false;
                    }
                    predicates.add(set);
                }
            }
        }
        return predicates.size() > before || refineByBit();
    }

    private boolean makesDifference(Edge e, boolean[] set) {
        for (int s = 0; s < states; s++) {
            for (int v = 0; v < power(); v++) {
                if (set[s] != set[follow(e, s, v)]) {
                    return true;
                }
            }
        }
        return false;
    }

    private boolean refineByBit() {
        for (int v = 0; v < 3; v++) {
            for (int b = 0; b < width; b++) {
                int variable = v;
                int bit = b;
                boolean[] set = setOf(s -> split(s)[variable] >> bit & 1);
                if (splits(set)) {
                    if (predicates.size() == 12) {
                        return false;
                    }
                    predicates.add(set);
                    return true;
                }
            }
        }
        throw new AssertionError("a path that is not true over single states");
    }
}
