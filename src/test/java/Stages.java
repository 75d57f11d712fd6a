/** Provers in every stage that their calls lead to, and all that can be told of them. */
final class Stages {
    static final int COUNT = 10;
    static final int REFUSED_CALLS = 25;
    static final int[] OUTCOMES = {-1, -1, -1, -1, Bench.REFINED, Bench.SAFE, Bench.UNSAFE, Bench.NO_ROOM, Bench.NO_ROOM, Bench.UNSAFE};

    private Stages() {
    }

    static PredicateProver make(int stage) {
        switch (stage) {
            case 0:
                return new PredicateProver(Bench.WIDTH_2);
            case 1:
                return Bench.typed(new PredicateProver(Bench.WIDTH_2), "AC x:y+");
            case 2:
                return Bench.typed(new PredicateProver(Bench.WIDTH_2), "AC x:y+0+0+0+0+0+0+0+0+*");
            case 3:
                return Bench.typed(Bench.fill(Bench.program(Bench.WIDTH_2, "AC x?", "CB x=3"), 2, "y=1"), "AD y:z-");
            case 4:
                return refined();
            case 5:
                return safe();
            case 6:
                return unsafe();
            case 7:
                return outOfNodes();
            case 8:
                return outOfPredicates();
            default:
                return fullOfEdges();
        }
    }

    private static PredicateProver refined() {
        PredicateProver p = Bench.program(Bench.WIDTH_2, "AC x?", "CD x=1", "DB x=2");
        p.prove(1);
        return Bench.typed(p, "x<");
    }

    private static PredicateProver safe() {
        PredicateProver p = Bench.program(Bench.WIDTH_2, "AC x?", "CD x=1", "DB x=2");
        p.prove(40);
        return p;
    }

    private static PredicateProver unsafe() {
        PredicateProver p = Bench.program(Bench.WIDTH_2, "AC x?", "CD y?", "DB x*y=3");
        p.prove(40);
        return Bench.typed(p, "AC z");
    }

    private static PredicateProver outOfNodes() {
        PredicateProver p = Bench.program(Bench.WIDTH_2, "AA x?", "AA y?", "AA z?", "AC x=x", "CD x=x", "DE x=x", "EB x&y&z=3");
        for (int i = 0; i < 6; i++) {
            Bench.addPredicate(p, "xyz".charAt(i / 2) + "&" + (1 + i % 2) + "#0");
        }
        p.prove(40);
        return Bench.typed(p, "BA ");
    }

    /** The line is an atom, for which there is no room. */
    private static PredicateProver outOfPredicates() {
        PredicateProver p = Bench.fill(Bench.program(Bench.WIDTH_2, "AC x?", "CD x=1", "DB x=2"), 11, "1=1");
        p.prove(40);
        return Bench.typed(p, "x=3");
    }

    /** The line is an edge, for which there is no room. */
    private static PredicateProver fullOfEdges() {
        PredicateProver p = new PredicateProver(Bench.WIDTH_2);
        for (int i = 0; i < 20; i++) {
            Bench.addEdge(p, i == 0 ? "AC x?" : i == 19 ? "CB x=2" : "CD y:x+1");
        }
        p.prove(40);
        return Bench.typed(p, "BA x?");
    }

    /** Makes calls of every kind that throw in every stage, and two of type that are refused; how many threw. */
    static int makeRefusedCalls(PredicateProver p) {
        int nodes = p.nodes();
        int length = Math.max(0, p.length());
        int edges = p.edges();
        int predicates = p.predicates();
        Check.Call[] calls = {
            p::edge, p::predicate, () -> p.prove(0), () -> p.prove(41), () -> p.prove(Integer.MIN_VALUE), () -> p.prove(Integer.MAX_VALUE),
            () -> p.holds(-1, 0) ? 1 : 0, () -> p.holds(predicates, 0) ? 1 : 0, () -> p.holds(0, -1) ? 1 : 0, () -> p.holds(0, 64) ? 1 : 0,
            () -> p.signature(-1), () -> p.signature(64), () -> p.follow(-1, 0, 0), () -> p.follow(edges, 0, 0), () -> p.follow(0, -1, 0),
            () -> p.follow(0, 64, 0), () -> p.node(-1, 0), () -> p.node(nodes, 0), () -> p.node(nodes, 4), () -> p.node(0, 4), () -> p.node(0, -1),
            () -> p.path(-1), () -> p.path(length), () -> p.input(-1), () -> p.input(200), () -> p.type((char) 31), () -> p.type((char) 127),
        };
        int thrown = 0;
        for (Check.Call call : calls) {
            thrown += Bench.answer(call) < -1000 ? 1 : 0;
        }
        return thrown;
    }

    /** All that the calls tell, the line last: of that, how much fits in, and what comes of it with an end. */
    static String describe(PredicateProver p) {
        StringBuilder text = new StringBuilder();
        text.append(p.outcome()).append(' ').append(p.edges()).append(' ').append(p.predicates()).append(' ').append(p.nodes()).append(' ').append(p.length());
        text.append(" nodes");
        for (int i = 0; i < p.nodes(); i++) {
            for (int what = 0; what < 4; what++) {
                text.append(' ').append(p.node(i, what));
            }
        }
        text.append(" path");
        for (int k = 0; k <= p.length(); k++) {
            int at = k;
            text.append(' ').append(Bench.answer(() -> p.path(at)));
        }
        text.append(" inputs");
        for (int k = 0; k < 4; k++) {
            int at = k;
            text.append(' ').append(Bench.answer(() -> p.input(at)));
        }
        describeStates(p, text);
        describeLine(p, text);
        return text.toString();
    }

    private static void describeStates(PredicateProver p, StringBuilder text) {
        text.append(" states");
        for (int s = 0; s < 64; s++) {
            text.append(' ').append(p.signature(s));
            for (int i = 0; i < p.predicates(); i++) {
                text.append(p.holds(i, s) ? '+' : '-');
            }
            for (int i = 0; i < p.edges(); i++) {
                text.append(',').append(p.follow(i, s, s));
            }
        }
    }

    private static void describeLine(PredicateProver p, StringBuilder text) {
        text.append(" line ").append(Bench.answer(p::edge)).append(' ').append(Bench.answer(p::predicate));
        for (char c : "1?x=1".toCharArray()) {
            text.append(' ').append(p.type(c)).append(' ').append(Bench.answer(p::edge)).append(' ').append(Bench.answer(p::predicate));
        }
        int last = p.edges() - 1;
        for (int s = 0; s < 64 && last >= 0; s++) {
            text.append(' ').append(p.follow(last, s, s)).append(' ').append(p.signature(s));
        }
    }
}
