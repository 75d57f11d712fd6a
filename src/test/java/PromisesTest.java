/** Each promise of the document: ordinary inputs, the edges that it names, and wrong inputs. */
public final class PromisesTest {
    private static final Class<IllegalArgumentException> ARGUMENT = IllegalArgumentException.class;
    private static final Class<IllegalStateException> STATE = IllegalStateException.class;
    private static final Class<IndexOutOfBoundsException> INDEX = IndexOutOfBoundsException.class;

    private static final int REFINED = 0;
    private static final int SAFE = 1;
    private static final int UNSAFE = 2;
    private static final int NO_ROOM = 3;

    private final Check check = new Check();

    // ---- making objects

    private static PredicateProver typed(PredicateProver p, String text) {
        for (char c : text.toCharArray()) {
            p.type(c);
        }
        return p;
    }

    private static int addEdge(PredicateProver p, String text) {
        return typed(p, text).edge();
    }

    private static int addPredicate(PredicateProver p, String text) {
        return typed(p, text).predicate();
    }

    private static PredicateProver program(int w, String... edges) {
        PredicateProver p = new PredicateProver(w);
        for (String edge : edges) {
            addEdge(p, edge);
        }
        return p;
    }

    // ---- comparing

    private void dueNew(String when, PredicateProver p) {
        check.due(when + ": edges()", p.edges(), 0);
        check.due(when + ": predicates()", p.predicates(), 0);
        check.due(when + ": signature(0)", p.signature(0), 0);
        dueNoSearch(when, p);
        check.dueThrow(when + ": edge()", ARGUMENT, p::edge);
        check.due(when + ": type", p.type('x'), 1);
        p.wipe();
    }

    private void dueNoSearch(String when, PredicateProver p) {
        check.due(when + ": outcome()", p.outcome(), -1);
        check.due(when + ": nodes()", p.nodes(), 0);
        check.due(when + ": length()", p.length(), -1);
        check.dueThrow(when + ": node(0, 0)", INDEX, () -> p.node(0, 0));
        check.dueThrow(when + ": path(0)", INDEX, () -> p.path(0));
        check.dueThrow(when + ": input(0)", INDEX, () -> p.input(0));
    }

    private void dueNode(PredicateProver p, int i, int... want) {
        for (int what = 0; what < 4; what++) {
            check.due("node(" + i + ", " + what + ")", p.node(i, what), want[what]);
        }
    }

    private void duePath(PredicateProver p, int... want) {
        check.due("length()", p.length(), want.length);
        for (int k = 0; k < want.length; k++) {
            check.due("path(" + k + ")", p.path(k), want[k]);
        }
        check.dueThrow("path behind the last", INDEX, () -> p.path(want.length));
        check.dueThrow("path(-1)", INDEX, () -> p.path(-1));
    }

    private void dueInputs(PredicateProver p, int... want) {
        for (int k = 0; k < want.length; k++) {
            check.due("input(" + k + ")", p.input(k), want[k]);
        }
        check.dueThrow("input behind the last", INDEX, () -> p.input(want.length));
        check.dueThrow("input(-1)", INDEX, () -> p.input(-1));
    }

    /** The predicate of a prover of width 3 has just the states in which the atom holds. */
    private void dueSet(PredicateProver p, int predicate, String atom) {
        PredicateProver other = new PredicateProver(2);
        addPredicate(other, atom);
        int same = 0;
        for (int s = 0; s < 512; s++) {
            same += p.holds(predicate, s) == other.holds(0, s) ? 1 : 0;
        }
        check.due("states in which predicate " + predicate + " is " + atom, same, 512);
    }

    // ---- the promises

    private void promise1NewObject() {
        int[][] widths = {{0, 1}, {1, 2}, {2, 3}, {3, 3}, {4, 1}, {5, 2}, {-1, 3}, {-2, 3}, {-3, 2}, {-4, 1}, {Integer.MIN_VALUE, 1}};
        for (int[] w : widths) {
            PredicateProver p = new PredicateProver(w[0]);
            dueNew("new " + w[0], p);
            int states = 1 << 3 * w[1];
            check.due("the last state of " + w[0], p.signature(states - 1), 0);
            check.dueThrow("behind the last state of " + w[0], INDEX, () -> p.signature(states));
        }
    }

    private void promise2Type() {
        PredicateProver p = new PredicateProver(0);
        check.due("type 31", p.type((char) 31), -1);
        check.due("type 127", p.type((char) 127), -1);
        check.due("type 0", p.type((char) 0), -1);
        check.due("type 0xFFFF", p.type((char) 0xFFFF), -1);
        check.due("type A + 256", p.type((char) ('A' + 256)), -1);
        check.due("type 32", p.type((char) 32), 1);
        check.due("type 126", p.type((char) 126), 2);
        for (int i = 3; i <= 24; i++) {
            check.due("type the " + i + "th", p.type('x'), i);
        }
        check.due("type the 25th", p.type('x'), -1);
        check.due("type the 26th", p.type('y'), -1);
        p.wipe();
        typed(p, "AC x:y+0+0+0+0+0+0+0+0+1+1");
        check.due("edge of the first 24 characters", p.edge(), 0);
        check.due("the last two were not there", p.follow(0, 0, 0), 1);
    }

    private void promise3Wipe() {
        PredicateProver p = program(0, "AB x=1");
        p.prove(1);
        typed(p, "zzz");
        p.wipe();
        check.due("type after wipe", p.type('x'), 1);
        p.wipe();
        p.wipe();
        check.dueThrow("edge of an empty line", ARGUMENT, p::edge);
        check.dueThrow("predicate of an empty line", ARGUMENT, p::predicate);
        check.due("edges stay", p.edges(), 1);
        check.due("predicates stay", p.predicates(), 1);
        check.due("nodes stay", p.nodes(), 2);
        check.due("outcome stays", p.outcome(), REFINED);
    }

    private void promise4Edge() {
        String[] wrong = {
            "", "A", "AC", "AC ", "AC x", "AC  x?", "ACx?", "AC_x?", "AM x?", "MA x?", "aC x?", "A@ x?", "AC w?", "AC x??", "AC ?",
            "AC x:", "AC x:8", "AC x:w", "AC x:y z", "AC x: y", "AC x:y ", "AC x:y+", "AC x:+y", "AC x:-1", "AC x:(y", "AC x:y)",
            "AC x:()", "AC x:12", "AC x:xy", "AC x:y:z", "AC x:y=z", "AC x:y/z", "AC 1:x", "AC x+1:y", "AC x+1?", "AC x<", "AC <x",
            "AC x<y<z", "AC x==y", "AC x<=y", "AC x>y", "AC (x<y)", "AC x<(y", "AC x<y)", "AC x?y", " AC x?", "AC x:(((((1)))))",
            "AC x+1", "AC (x)?", "AC (x):1", "AC 3", "AC x(y)=1", "AC (x)(y)=1", "AC x:?",
        };
        for (String text : wrong) {
            PredicateProver p = typed(program(2, "AB x=1"), text);
            p.prove(1);
            check.dueThrow("edge of '" + text + "'", ARGUMENT, p::edge);
            check.due("the line stays of '" + text + "'", p.type('x'), text.length() + 1);
            check.due("the outcome stays of '" + text + "'", p.outcome(), REFINED);
            check.due("the edges stay of '" + text + "'", p.edges(), 1);
        }
        String[] right = {
            "AC x?", "LL z?", "BA y?", "AA x:x", "CD x:((((1))))", "AB ((((x))))<((((y))))", "KL x:7-y*z&3^1+0", "AB 1=1", "AB x#y",
            "AC x:(1)+(2)*((3)-4)", "AB 0<0",
        };
        PredicateProver p = new PredicateProver(1);
        for (int i = 0; i < right.length; i++) {
            typed(p, right[i]);
            check.due("edge of '" + right[i] + "'", p.edge(), i);
            check.due("the line is empty after '" + right[i] + "'", p.type('q'), 1);
            p.wipe();
        }
        promise4Limit();
        promise4NoSearch();
    }

    private void promise4Limit() {
        PredicateProver p = new PredicateProver(0);
        for (int i = 0; i < 20; i++) {
            check.due("edge " + i, addEdge(p, "AB x=1"), i);
        }
        p.prove(1);
        typed(p, "AC");
        check.dueThrow("edge that is none, with 20 there", ARGUMENT, p::edge);
        typed(p, " x?");
        check.dueThrow("edge 20", STATE, p::edge);
        check.due("edges()", p.edges(), 20);
        check.due("outcome stays", p.outcome(), REFINED);
        check.due("the line stays", p.type('x'), 6);
    }

    private void promise4NoSearch() {
        PredicateProver p = program(2, "AC x?", "CB x=3");
        check.due("prove", p.prove(1), UNSAFE);
        dueInputs(p, 3);
        addEdge(p, "AC x=1");
        dueNoSearch("after edge()", p);
    }

    private void promise5Predicate() {
        String[] wrong = {"", "x", "x<", "<x", "x?", "x:1", "AB x=1", "x=1 ", " x=1", "x=y=z", "x=8", "x==1", "(x=1)", "(((((1)))))=1", "x+=1", "x=(1"};
        for (String text : wrong) {
            PredicateProver p = typed(program(2, "AB x=1"), text);
            p.prove(1);
            check.dueThrow("predicate of '" + text + "'", ARGUMENT, p::predicate);
            check.due("the line stays of '" + text + "'", p.type('x'), text.length() + 1);
            check.due("the outcome stays of '" + text + "'", p.outcome(), REFINED);
            check.due("the predicates stay of '" + text + "'", p.predicates(), 1);
        }
        PredicateProver p = new PredicateProver(0);
        check.due("one that splits nothing", addPredicate(p, "1=1"), 0);
        check.due("the same again", addPredicate(p, "1=1"), 1);
        check.due("an empty one", addPredicate(p, "x#x"), 2);
        check.due("signature", p.signature(5), 3);
        for (int i = 3; i < 12; i++) {
            check.due("predicate " + i, addPredicate(p, "z=1"), i);
        }
        check.due("signature with all 12", p.signature(4), 0xFFB);
        p.prove(1);
        typed(p, "z");
        check.dueThrow("predicate that is none, with 12 there", ARGUMENT, p::predicate);
        typed(p, "=1");
        check.dueThrow("predicate 12", STATE, p::predicate);
        check.due("predicates()", p.predicates(), 12);
        check.due("outcome stays", p.outcome(), SAFE);
        check.due("the line stays", p.type('x'), 4);
        PredicateProver q = program(2, "AC x?", "CB x=3");
        q.prove(1);
        addPredicate(q, "x=x");
        dueNoSearch("after predicate()", q);
        check.due("the line is empty", q.type('x'), 1);
    }

    private void promise6Clear() {
        PredicateProver p = program(1, "AC x?", "CB x=3");
        addPredicate(p, "x=0");
        p.prove(3);
        typed(p, "zz");
        p.clear();
        dueNew("after clear()", p);
        check.due("the width stays", p.signature(63), 0);
        check.dueThrow("the width stays", INDEX, () -> p.signature(64));
        check.dueThrow("no edge", INDEX, () -> p.follow(0, 0, 0));
        check.dueThrow("no predicate", INDEX, () -> p.holds(0, 0) ? 1 : 0);
        check.due("the first edge again", addEdge(p, "AB x=0"), 0);
        check.due("the first predicate again", addPredicate(p, "x=1"), 0);
        check.due("prove again", p.prove(1), UNSAFE);
        dueNode(p, 0, 0, 0, -1, -1);
    }

    private void promise7Prove() {
        PredicateProver p = program(1, "AC x:y+1", "CB x=0");
        for (int fuel : new int[] {0, -1, 41, Integer.MAX_VALUE, Integer.MIN_VALUE}) {
            check.dueThrow("prove(" + fuel + ")", ARGUMENT, () -> p.prove(fuel));
        }
        dueNoSearch("after prove that throws", p);
        check.due("prove(1)", p.prove(1), REFINED);
        check.due("predicates()", p.predicates(), 2);
        check.dueThrow("prove(0)", ARGUMENT, () -> p.prove(0));
        check.due("outcome stays", p.outcome(), REFINED);
        duePath(p, 0, 1);
        check.due("prove(1) again", p.prove(1), SAFE);
        check.due("prove(40)", p.prove(40), SAFE);
        check.due("no edges", new PredicateProver(0).prove(1), SAFE);
        provesBackwards();
        leavesBehind();
        takesDuplicatesOnce();
        takesInOrder();
        takesManyAlong();
        fallsBackToBits();
        goesOutOfPredicates();
        goesOutOfNodes();
    }

    private void provesBackwards() {
        PredicateProver p = program(2, "AC x<5", "CD x:x+1", "DE y=2", "EB x=7");
        check.due("prove(1)", p.prove(1), REFINED);
        duePath(p, 0, 1, 2, 3);
        check.due("predicates()", p.predicates(), 4);
        dueSet(p, 0, "x=7");
        dueSet(p, 1, "y=2");
        dueSet(p, 2, "x=6");
        dueSet(p, 3, "x<5");
    }

    private void leavesBehind() {
        PredicateProver p = program(2, "AC z:x+1", "CD x?", "DE z=3", "EB x=x+y");
        check.due("prove(1)", p.prove(1), REFINED);
        duePath(p, 0, 1, 2, 3);
        check.due("predicates()", p.predicates(), 3);
        dueSet(p, 0, "x=x+y");
        dueSet(p, 1, "z=3");
        dueSet(p, 2, "x=2");

        PredicateProver q = program(2, "AC x:y", "CD x?", "DE x=3", "EB x=4");
        check.due("prove(1)", q.prove(1), REFINED);
        check.due("predicates()", q.predicates(), 2);
        dueSet(q, 0, "x=4");
        dueSet(q, 1, "x=3");
        check.due("prove(40)", q.prove(40), SAFE);
        check.due("x=3 and x=4 were left behind at the input", q.predicates(), 2);
    }

    /** Two equal sets come to the assignment: the first becomes a predicate, so the second splits no more. */
    private void takesDuplicatesOnce() {
        PredicateProver p = program(2, "AC x:y+1", "CD x<1", "DB x=0");
        check.due("prove(1)", p.prove(1), REFINED);
        check.due("predicates()", p.predicates(), 2);
        dueSet(p, 0, "x=0");
        dueSet(p, 1, "y=7");
    }

    private void takesInOrder() {
        PredicateProver p = program(2, "AC x:y+1", "CD x=3", "DB x<2");
        check.due("prove(1)", p.prove(1), REFINED);
        check.due("predicates()", p.predicates(), 4);
        dueSet(p, 0, "x<2");
        dueSet(p, 1, "x=3");
        dueSet(p, 2, "y+1<2");
        dueSet(p, 3, "y=2");
    }

    /** x and y count from 0 to 56 on the path, so more than 100 sets come to its first edges. */
    private void takesManyAlong() {
        PredicateProver p = program(2, "AI z:z+2", "IH z?", "HG z:z+3", "GC z=5", "CD 1=1", "DE x:x+1", "EC x#0", "EF x=0", "FC y:y+1", "CK y=7", "KB z=1");
        for (int i = 0; i < 6; i++) {
            addPredicate(p, (i < 3 ? "x" : "y") + "&" + (1 << i % 3) + "#0");
        }
        check.due("prove(1)", p.prove(1), REFINED);
        check.due("length()", p.length(), 4 + 49 * 3 + 7 * 4 + 2);
        check.due("predicates()", p.predicates(), 10);
        dueSet(p, 6, "z=1");
        dueSet(p, 7, "z=5");
        dueSet(p, 8, "z=6");
        dueSet(p, 9, "z=2");
        check.due("the counters make 64 nodes at each of 3 locations", p.prove(1), NO_ROOM);
        check.due("nodes()", p.nodes(), 200);
    }

    /** An input before the atom leaves its set behind, so bits have to tell the states apart. */
    private void fallsBackToBits() {
        PredicateProver p = program(1, "AC x?", "CB x<y");
        int[] outcomes = {REFINED, REFINED, REFINED, SAFE, SAFE};
        int[] counts = {1, 2, 3, 3, 3};
        for (int i = 0; i < outcomes.length; i++) {
            check.due("round " + i, p.prove(1), outcomes[i]);
            check.due("predicates after round " + i, p.predicates(), counts[i]);
        }
        for (int s = 0; s < 64; s++) {
            check.due("bit 0 of x in " + s, p.holds(1, s) ? 1 : 0, s & 1);
            check.due("bit 1 of x in " + s, p.holds(2, s) ? 1 : 0, s >> 1 & 1);
        }
        PredicateProver q = program(0, "AC x?", "CB x^y&z=1");
        check.due("prove(4)", q.prove(4), REFINED);
        check.due("predicates()", q.predicates(), 4);
        for (int s = 0; s < 8; s++) {
            check.due("signature(" + s + ")", q.signature(s) >> 1, s);
        }
        check.due("prove(1)", q.prove(1), SAFE);

        PredicateProver full = program(1, "AC x?", "CB x<y");
        addPredicate(full, "x<y");
        for (int i = 1; i < 12; i++) {
            addPredicate(full, "1=1");
        }
        check.due("no room for a bit", full.prove(40), NO_ROOM);
        check.due("predicates()", full.predicates(), 12);
        duePath(full, 0, 1);
        check.due("no room again", full.prove(1), NO_ROOM);
    }

    private void goesOutOfPredicates() {
        PredicateProver p = new PredicateProver(2);
        for (int i = 0; i < 11; i++) {
            addPredicate(p, "1=1");
        }
        addEdge(p, "AC x=7");
        addEdge(p, "CB y=7");
        check.due("prove(40)", p.prove(40), NO_ROOM);
        check.due("outcome()", p.outcome(), NO_ROOM);
        check.due("predicates()", p.predicates(), 12);
        dueSet(p, 11, "y=7");
        duePath(p, 0, 1);
        dueInputs(p);
        check.due("nodes()", p.nodes(), 3);
        check.due("its signature then", p.node(0, 1), 0x7FF);
        check.due("now the search does not see B", p.prove(40), SAFE);
    }

    private void goesOutOfNodes() {
        PredicateProver p = crowd("EF x=x");
        addEdge(p, "FB x=7");
        check.due("B would be node 200", p.prove(40), NO_ROOM);
        check.due("nodes()", p.nodes(), 200);
        check.due("length()", p.length(), -1);
        check.dueThrow("path(0)", INDEX, () -> p.path(0));
        check.due("the last one's location", p.node(199, 0), 5);
        check.dueThrow("node(200, 0)", INDEX, () -> p.node(200, 0));
        p.clear();
        check.due("room again", p.prove(1), SAFE);

        PredicateProver q = crowd("EF x=x");
        check.due("200 nodes without B", q.prove(40), SAFE);
        check.due("nodes()", q.nodes(), 200);

        PredicateProver r = crowd("EF x<7");
        addEdge(r, "FB x=5");
        check.due("B is node 199", r.prove(40), UNSAFE);
        check.due("nodes()", r.nodes(), 200);
        duePath(r, 0, 1, 3, 4, 5, 6);
        dueInputs(r, 5, 5);
    }

    /** 64 nodes at each of A, C and D, 4 at E (x = y = 1, 3, 5, 7), and what the action leaves at F. */
    private static PredicateProver crowd(String edgeToF) {
        PredicateProver p = program(2, "AA x?", "AA y?", "AC x=x", "AD x=x", "DE x*y=1", edgeToF);
        for (String variable : new String[] {"x", "y"}) {
            for (String bit : new String[] {"1", "2", "4"}) {
                addPredicate(p, variable + "&" + bit + "#0");
            }
        }
        return p;
    }

    private void promise8Outcome() {
        PredicateProver p = program(0, "AB x=1");
        check.due("none yet", p.outcome(), -1);
        p.prove(1);
        check.due("refined", p.outcome(), REFINED);
        p.prove(1);
        check.due("safe", p.outcome(), SAFE);
        addEdge(p, "AB x=0");
        check.due("none any more", p.outcome(), -1);
        p.prove(1);
        check.due("unsafe", p.outcome(), UNSAFE);
    }

    private void promise9And10Counts() {
        PredicateProver p = new PredicateProver(0);
        for (int i = 0; i < 3; i++) {
            check.due("edges()", p.edges(), i);
            addEdge(p, "AC x=1");
            check.due("predicates()", p.predicates(), i);
            addPredicate(p, "x=1");
        }
        check.due("edges()", p.edges(), 3);
        check.due("predicates()", p.predicates(), 3);
    }

    private void promise11Holds() {
        PredicateProver p = new PredicateProver(1);
        addPredicate(p, "x<y");
        addPredicate(p, "z=3");
        for (int s = 0; s < 64; s++) {
            check.due("x<y in " + s, p.holds(0, s) ? 1 : 0, s % 4 < s / 4 % 4 ? 1 : 0);
            check.due("z=3 in " + s, p.holds(1, s) ? 1 : 0, s / 16 == 3 ? 1 : 0);
        }
        int[][] wrong = {{-1, 0}, {2, 0}, {0, -1}, {0, 64}, {12, 64}, {Integer.MIN_VALUE, 0}, {0, Integer.MAX_VALUE}};
        for (int[] w : wrong) {
            check.dueThrow("holds(" + w[0] + ", " + w[1] + ")", INDEX, () -> p.holds(w[0], w[1]) ? 1 : 0);
        }
        terms();
    }

    /** Terms go from left to right, modulo 2 to the power of WIDTH. */
    private void terms() {
        Object[][] cases = {
            {2, "1+2*3=1", 1}, {2, "1+(2*3)=7", 1}, {2, "0-1=7", 1}, {1, "0-1=3", 1}, {0, "0-1=1", 1}, {2, "7&5^1=4", 1},
            {2, "7-2-3=2", 1}, {2, "7-(2-3)=0", 1}, {2, "5*5=1", 1}, {1, "3*3=1", 1}, {1, "7=3", 1}, {0, "6=0", 1}, {0, "0<2", 0},
            {1, "3<4", 0}, {2, "0-1<1", 0}, {2, "6<7", 1}, {2, "7<7", 0}, {2, "7#7", 0}, {2, "6#7", 1}, {2, "3^6=5", 1}, {2, "((((2))))+1=3", 1},
            {2, "(1+(2*(3-(1))))=5", 1}, {2, "7+1<1", 1}, {2, "1+1&3=2", 1},
        };
        for (Object[] c : cases) {
            PredicateProver p = new PredicateProver((Integer) c[0]);
            addPredicate(p, (String) c[1]);
            check.due((String) c[1] + " at " + c[0], p.holds(0, 0) ? 1 : 0, (Integer) c[2]);
        }
    }

    private void promise12Signature() {
        PredicateProver p = program(2, "AB x=1");
        addPredicate(p, "x=3");
        addPredicate(p, "y=5");
        addPredicate(p, "z=6");
        check.due("signature of none", p.signature(0), 0);
        check.due("signature of x=3", p.signature(3), 1);
        check.due("signature of y=5", p.signature(40), 2);
        check.due("signature of z=6", p.signature(6 * 64), 4);
        check.due("signature of all", p.signature(6 * 64 + 5 * 8 + 3), 7);
        p.prove(1);
        check.due("as the predicates are now", p.signature(1), 8);
        check.due("but the node's then", p.node(1, 1), 0);
        for (int state : new int[] {-1, 512, Integer.MAX_VALUE, Integer.MIN_VALUE}) {
            check.dueThrow("signature(" + state + ")", INDEX, () -> p.signature(state));
        }
    }

    private void promise13Follow() {
        PredicateProver p = program(2, "AC x:y+z", "CD y?", "DE x<y", "EF z:z*z", "BA z?");
        int state = 3 + 5 * 8 + 6 * 64;
        check.due("x:y+z", p.follow(0, state, 7), 3 + 5 * 8 + 6 * 64);
        check.due("x:y+z from 8", p.follow(0, 8, 7), 1 + 8);
        check.due("y?", p.follow(1, state, 2), 3 + 2 * 8 + 6 * 64);
        check.due("y? of -1", p.follow(1, state, -1), 3 + 7 * 8 + 6 * 64);
        check.due("y? of 8", p.follow(1, state, 8), 3 + 6 * 64);
        check.due("x<y", p.follow(2, state, 0), state);
        check.due("x<y where it does not hold", p.follow(2, 3 + 2 * 8, 0), -1);
        check.due("z:z*z", p.follow(3, state, 0), 3 + 5 * 8 + 4 * 64);
        check.due("z?", p.follow(4, 511, 1), 7 + 56 + 64);
        int[][] wrong = {{-1, 0}, {5, 0}, {0, -1}, {0, 512}, {20, 0}, {Integer.MAX_VALUE, 0}, {0, Integer.MIN_VALUE}};
        for (int[] w : wrong) {
            check.dueThrow("follow(" + w[0] + ", " + w[1] + ", 0)", INDEX, () -> p.follow(w[0], w[1], 0));
        }
        PredicateProver narrow = program(0, "AC x?", "AC z?");
        check.due("x? of 2", narrow.follow(0, 7, 2), 6);
        check.due("z? of 3", narrow.follow(1, 0, 3), 4);
        check.dueThrow("follow(0, 8, 0)", INDEX, () -> narrow.follow(0, 8, 0));
    }

    private void promise14And15Nodes() {
        PredicateProver p = program(1, "CD x=1", "AC x?", "AC y?", "CB x=3", "AE z:1", "BK x=x");
        addPredicate(p, "x=2");
        addPredicate(p, "x=1");
        check.due("no search yet", p.nodes(), 0);
        check.due("prove(1)", p.prove(1), UNSAFE);
        check.due("nodes()", p.nodes(), 6);
        dueNode(p, 0, 0, 0, -1, -1);
        dueNode(p, 1, 2, 0, 0, 1);
        dueNode(p, 2, 2, 1, 0, 1);
        dueNode(p, 3, 2, 2, 0, 1);
        dueNode(p, 4, 4, 0, 0, 4);
        dueNode(p, 5, 1, 0, 1, 3);
        check.dueThrow("node(-1, 0)", INDEX, () -> p.node(-1, 0));
        check.dueThrow("node(6, 0)", INDEX, () -> p.node(6, 0));
        check.dueThrow("node(6, 4)", INDEX, () -> p.node(6, 4));
        check.dueThrow("node(-1, -1)", INDEX, () -> p.node(-1, -1));
        check.dueThrow("node(0, 4)", ARGUMENT, () -> p.node(0, 4));
        check.dueThrow("node(0, -1)", ARGUMENT, () -> p.node(0, -1));
    }

    private void promise16To18PathAndInputs() {
        PredicateProver p = program(2, "AC x?", "CD y?", "DE z?", "EB x*y+z=7");
        check.due("prove(1)", p.prove(1), UNSAFE);
        duePath(p, 0, 1, 2, 3);
        dueInputs(p, 0, 0, 7);

        PredicateProver q = program(2, "AC x?", "CD y:x", "DE x?", "EF x<y", "FB x*3=7");
        check.due("prove(40)", q.prove(40), UNSAFE);
        duePath(q, 0, 1, 2, 3, 4);
        dueInputs(q, 6, 5);

        PredicateProver r = program(0, "AB x=0");
        check.due("without inputs", r.prove(1), UNSAFE);
        duePath(r, 0);
        dueInputs(r);

        PredicateProver s = program(2, "AC x?", "CD x=1", "DB x=2");
        check.due("a path that is not true", s.prove(1), REFINED);
        duePath(s, 0, 1, 2);
        dueInputs(s);
        check.due("no path", s.prove(1), SAFE);
        check.due("length()", s.length(), -1);
        dueInputs(s);
    }

    public static void main(String[] args) {
        PromisesTest test = new PromisesTest();
        test.promise1NewObject();
        test.promise2Type();
        test.promise3Wipe();
        test.promise4Edge();
        test.promise5Predicate();
        test.promise6Clear();
        test.promise7Prove();
        test.promise8Outcome();
        test.promise9And10Counts();
        test.promise11Holds();
        test.promise12Signature();
        test.promise13Follow();
        test.promise14And15Nodes();
        test.promise16To18PathAndInputs();
        test.check.end("PromisesTest");
    }
}
