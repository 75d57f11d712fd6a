import java.util.Random;

/** Runs of calls from a fixed seed, on the program and on the model, whose every answer is compared. */
public final class ModelTest {
    private final Check check;
    private final Random random;
    private final int[] seen = new int[4];

    private ModelTest(Check check, long seed) {
        this.check = check;
        random = new Random(seed);
    }

    private char pick(String from) {
        return from.charAt(random.nextInt(from.length()));
    }

    private String part(int deep) {
        int kind = random.nextInt(10);
        if (kind == 0 && deep < 5) {
            return "(" + term(deep + 1) + ")";
        }
        return String.valueOf(kind < 5 ? pick("xyz") : pick("01234567"));
    }

    private String term(int deep) {
        StringBuilder text = new StringBuilder(part(deep));
        while (random.nextInt(3) == 0) {
            text.append(pick("+-*&^")).append(part(deep));
        }
        return text.toString();
    }

    private String atom() {
        return term(0) + pick("<=#") + term(0);
    }

    private String action() {
        int kind = random.nextInt(8);
        if (kind == 0) {
            return pick("xyz") + "?";
        }
        if (kind < 4) {
            char variable = pick("xyz");
            return variable + ":" + (random.nextInt(3) == 0 ? variable + "+1" : term(0));
        }
        return atom();
    }

    private String edge(String locations) {
        return "" + pick(locations) + pick(random.nextInt(5) == 0 ? "B" : locations) + " " + action();
    }

    private String spoiled(String text) {
        int at = random.nextInt(text.length() + 1);
        char c = pick("xyzABLMabc 012789+-*&^()<=#?:~");
        return random.nextInt(2) == 0 || at == text.length()
            ? text.substring(0, at) + c + text.substring(at)
            : text.substring(0, at) + c + text.substring(at + 1);
    }

    private void typeLine(PredicateProver p, Model m, String text) {
        for (char c : text.toCharArray()) {
            check.due("type " + c, p.type(c), m.type(c));
        }
    }

    private void addEdge(PredicateProver p, Model m, String text) {
        typeLine(p, m, random.nextInt(10) == 0 ? spoiled(text) : text);
        String typed = m.line;
        check.due("edge " + typed, Bench.answer(p::edge), Bench.answer(m::edge));
        wipeSometimes(p, m);
    }

    private void addPredicate(PredicateProver p, Model m) {
        String text = atom();
        typeLine(p, m, random.nextInt(10) == 0 ? spoiled(text) : text);
        String typed = m.line;
        check.due("predicate " + typed, Bench.answer(p::predicate), Bench.answer(m::predicate));
        wipeSometimes(p, m);
    }

    private void wipeSometimes(PredicateProver p, Model m) {
        if (random.nextInt(4) != 0) {
            p.wipe();
            m.line = "";
        }
    }

    private void prove(PredicateProver p, Model m) {
        int fuel = random.nextInt(4) == 0 ? random.nextInt(44) - 1 : 1;
        long got = Bench.answer(() -> p.prove(fuel));
        long want = Bench.answer(() -> m.prove(fuel));
        check.due("prove " + fuel, got, want);
        if (want >= 0) {
            seen[(int) want]++;
        }
    }

    private void compare(PredicateProver p, Model m) {
        check.due("outcome", p.outcome(), m.outcome);
        check.due("edges", p.edges(), m.edges.size());
        check.due("predicates", p.predicates(), m.predicates.size());
        check.due("nodes", p.nodes(), m.nodes.size());
        for (int i = 0; i < m.nodes.size(); i++) {
            for (int what = 0; what < 4; what++) {
                check.due("node " + i + " " + what, p.node(i, what), m.nodes.get(i)[what]);
            }
        }
        int length = m.path == null ? -1 : m.path.size();
        check.due("length", p.length(), length);
        for (int k = -1; k <= length; k++) {
            int at = k;
            check.due("path " + k, Bench.answer(() -> p.path(at)), k < 0 || k >= length ? -1003 : m.path.get(k));
        }
        for (int k = -1; k <= m.inputs.size(); k++) {
            int at = k;
            boolean there = k >= 0 && k < m.inputs.size();
            check.due("input " + k, Bench.answer(() -> p.input(at)), there ? m.inputs.get(k) : -1003);
        }
        compareStates(p, m);
    }

    private void compareStates(PredicateProver p, Model m) {
        for (int s = 0; s < m.states; s++) {
            check.due("signature " + s, p.signature(s), m.signature(s));
            for (int i = 0; i < m.predicates.size(); i++) {
                check.due("holds " + i + " " + s, p.holds(i, s) ? 1 : 0, m.predicates.get(i)[s] ? 1 : 0);
            }
        }
        for (int i = 0; i < m.edges.size(); i++) {
            for (int k = 0; k < 8; k++) {
                int s = random.nextInt(m.states);
                int input = random.nextInt();
                check.due("follow " + i + " " + s + " " + input, p.follow(i, s, input), m.follow(m.edges.get(i), s, input));
            }
        }
    }

    private void addScatteredEdges(PredicateProver p, Model m, String locations) {
        int edges = random.nextInt(4) == 0 ? 21 : 2 + random.nextInt(12);
        for (int i = 0; i < edges; i++) {
            addEdge(p, m, edge(locations));
        }
    }

    /** One way to the error, with ways back on it: such a program needs more rounds than scattered edges. */
    private void addChain(PredicateProver p, Model m, String locations) {
        int last = locations.length() - 1;
        for (int i = 0; i < last; i++) {
            addEdge(p, m, locations.substring(i, i + 2) + " " + action());
        }
        for (int i = random.nextInt(8); i > 0; i--) {
            addEdge(p, m, "" + pick(locations) + pick(locations) + " " + action());
        }
        for (int i = random.nextInt(3); i > 0; i--) {
            addEdge(p, m, "" + locations.charAt(last) + locations.charAt(last) + " " + action());
        }
        addEdge(p, m, locations.charAt(last) + "B " + atom());
    }

    /** A program as people write them: an input or none, a loop that counts, and a question behind it. */
    private void addLoop(PredicateProver p, Model m) {
        String v = random.nextInt(2) == 0 ? "xyz" : random.nextInt(2) == 0 ? "yzx" : "zxy";
        char a = v.charAt(0);
        char b = v.charAt(1);
        char c = v.charAt(2);
        String other = b + (random.nextInt(3) == 0 ? "?" : ":" + pick("01234567xyz"));
        addEdge(p, m, "AC " + other);
        addEdge(p, m, "CD " + a + pick("<#") + pick("1234567" + b));
        addEdge(p, m, "DE " + a + ":" + a + pick("+-") + pick("123"));
        addEdge(p, m, "EC " + c + ":" + c + pick("+-^&*") + pick("1234567" + v));
        if (random.nextInt(2) == 0) {
            addEdge(p, m, "D" + pick("CEF") + " " + action());
        }
        addEdge(p, m, "CF " + a + "=" + pick("1234567" + b));
        addEdge(p, m, "FG " + action());
        addEdge(p, m, "GB " + pick("" + a + b + c) + pick("<=#") + pick("01234567xyz"));
    }

    /** Predicates that tell most states apart and loops that come to many of them: many nodes. */
    private void addCrowd(PredicateProver p, Model m) {
        for (int v = 0; v < 3; v++) {
            for (int bit = 1; bit < 8; bit *= 2) {
                if (random.nextInt(12) != 0) {
                    typeLine(p, m, "xyz".charAt(v) + "&" + bit + "#0");
                    check.due("predicate of a bit", Bench.answer(p::predicate), Bench.answer(m::predicate));
                }
            }
        }
        String locations = "ACD".substring(0, 1 + random.nextInt(3));
        for (int i = 3 + random.nextInt(8); i > 0; i--) {
            String action = random.nextInt(2) == 0 ? action() : pick("xyz") + "?";
            addEdge(p, m, "" + pick(locations) + pick(locations) + " " + action);
        }
        addEdge(p, m, pick(locations) + "B " + atom());
    }

    private void run() {
        int w = random.nextInt();
        PredicateProver p = new PredicateProver(w);
        Model m = new Model(w);
        String locations = "ACDEFGHIJKL".substring(0, 1 + random.nextInt(11));
        int kind = random.nextInt(6);
        if (kind == 0) {
            addScatteredEdges(p, m, locations);
        } else if (kind == 1) {
            addCrowd(p, m);
        } else if (kind < 4) {
            addLoop(p, m);
        } else {
            addChain(p, m, locations);
        }
        compare(p, m);
        for (int i = 0; i < 8 && check.wrong() == 0; i++) {
            int what = random.nextInt(30);
            if (what < 22) {
                prove(p, m);
            } else if (what < 25) {
                addEdge(p, m, edge(locations));
            } else if (what < 29) {
                addPredicate(p, m);
            } else {
                p.clear();
                m.clear();
            }
            compare(p, m);
        }
    }

    public static void main(String[] args) {
        Check check = new Check();
        int[] seen = new int[4];
        int runs = args.length > 0 ? Integer.parseInt(args[0]) : 1500;
        for (int seed = 0; seed < runs && check.wrong() == 0; seed++) {
            ModelTest test = new ModelTest(check, seed);
            test.run();
            for (int i = 0; i < 4; i++) {
                seen[i] += test.seen[i];
            }
            if (check.wrong() != 0) {
                System.out.println("in the run of seed " + seed);
            }
        }
        System.out.println("outcomes 0 to 3 seen: " + seen[0] + ", " + seen[1] + ", " + seen[2] + ", " + seen[3]);
        for (int i = 0; i < 4 && runs >= 1500; i++) {
            check.due("outcome " + i + " seen", seen[i] > 0 ? 1 : 0, 1);
        }
        check.end("ModelTest");
    }
}
