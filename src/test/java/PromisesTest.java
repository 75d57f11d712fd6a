/** The promises 1 to 18, sentence by sentence: ordinary calls, the edges that are named, and refused calls. */
public final class PromisesTest extends Bench {
    private static final int[] FAR = {Integer.MIN_VALUE, -513, -1, 512, 513, Integer.MAX_VALUE};

    private void objectsHave512Calls() {
        sentence("What it is: an object is used for at most 512 calls after it has been made");
        PredicateProver p = new PredicateProver(WIDTH_3);
        int calls = 0;
        for (int round = 0; round < 25; round++) {
            typed(p, "AC x?");
            p.edge();
            typed(p, "CB x=3");
            p.edge();
            check.due("prove(1) after " + calls + " calls", p.prove(1), UNSAFE);
            check.due("input(0)", p.input(0), 3);
            check.due("nodes()", p.nodes(), 3);
            p.clear();
            calls += 5 + 1 + 6 + 1 + 4;
        }
        typed(p, "AC x?");
        p.edge();
        typed(p, "CB x=3");
        p.edge();
        calls += 13;
        for (int state = 0; calls < 510; calls++, state++) {
            check.due("follow(0, " + state + ", 7)", p.follow(0, state, 7), state | 7);
        }
        check.due("prove(40), the 511th call", p.prove(40), UNSAFE);
        check.due("input(0), the 512th call", p.input(0), 3);
    }

    // ---- promise 1

    private void widthIsOfTheLowestTwoBits() {
        sentence("Promise 1: WIDTH is 1 + the lowest two bits of w, but 3 if that is 4");
        int[][] cases = {
            {0, 1}, {1, 2}, {2, 3}, {3, 3}, {4, 1}, {5, 2}, {6, 3}, {7, 3}, {8, 1}, {-1, 3}, {-2, 3}, {-3, 2}, {-4, 1}, {-5, 3},
            {Integer.MAX_VALUE, 3}, {Integer.MAX_VALUE - 2, 2}, {Integer.MIN_VALUE, 1}, {Integer.MIN_VALUE + 1, 2}, {1 << 16, 1}, {(1 << 16) + 2, 3},
        };
        for (int[] c : cases) {
            PredicateProver p = new PredicateProver(c[0]);
            int states = 1 << 3 * c[1];
            check.due("the last state of " + c[0], p.signature(states - 1), 0);
            check.dueThrow("behind the last state of " + c[0], INDEX, () -> p.signature(states));
            addEdge(p, "AC z:0-1");
            check.due("the largest z of " + c[0], p.follow(0, 0, 0), states - (states >> c[1]));
        }
    }

    private void newObjectsAreEmpty() {
        sentence("Promise 1: an empty line, no edges, no predicates, no search");
        for (int w = -1; w < 4; w++) {
            dueEmpty("new " + w, new PredicateProver(w));
        }
    }

    private void dueEmpty(String when, PredicateProver p) {
        check.due(when + ": edges()", p.edges(), 0);
        check.due(when + ": predicates()", p.predicates(), 0);
        check.due(when + ": signature(0)", p.signature(0), 0);
        check.due(when + ": signature(7)", p.signature(7), 0);
        check.dueThrow(when + ": holds(0, 0)", INDEX, () -> p.holds(0, 0) ? 1 : 0);
        check.dueThrow(when + ": follow(0, 0, 0)", INDEX, () -> p.follow(0, 0, 0));
        dueNoSearch(when, p);
        check.dueThrow(when + ": edge()", ARGUMENT, p::edge);
        check.dueThrow(when + ": predicate()", ARGUMENT, p::predicate);
        check.due(when + ": type('x')", p.type('x'), 1);
        p.wipe();
    }

    // ---- promises 2 and 3

    private void typeAppends() {
        sentence("Promise 2: appends a character to the line: how many are there");
        PredicateProver p = new PredicateProver(WIDTH_3);
        String text = "AC y:z+1*(2-x)";
        for (int i = 0; i < text.length(); i++) {
            check.due("type('" + text.charAt(i) + "')", p.type(text.charAt(i)), i + 1);
        }
        check.due("edge() of what was typed", p.edge(), 0);
        check.due("its value", p.follow(0, 5 * 64, 0), 5 * 64 + (6 * 2 % 8) * 8);
        sentence("Promise 2: -1, refused, if it is not 32 .. 126");
        typed(p, "AC");
        for (char c : new char[] {0, 9, 10, 31, 127, 128, 255, 256 + 'x', 0x7FFF, 0x8000, 0xFFFF}) {
            check.due("type(" + (int) c + ")", p.type(c), -1);
        }
        check.due("type(32)", p.type((char) 32), 3);
        typed(p, "x?");
        check.due("edge() of what was not refused", answer(p::edge), 1);
        check.due("type(126)", p.type((char) 126), 1);
    }

    private void typeIsRefusedBehind24() {
        sentence("Promise 2: -1, refused, if 24 are there");
        PredicateProver p = new PredicateProver(WIDTH_3);
        typed(p, "AC x:y+0+0+0+0+0+0+0+0+");
        check.due("type of the 24th", p.type('5'), 24);
        check.due("type of the 25th", p.type('x'), -1);
        check.due("type of the 25th again", p.type(' '), -1);
        check.due("type of what is none", p.type((char) 127), -1);
        check.due("edge() of the 24", answer(p::edge), 0);
        check.due("its value", p.follow(0, 0, 0), 5);
        check.due("type into the empty line", p.type('A'), 1);
    }

    private void wipeEmptiesTheLine() {
        sentence("Promise 3: the line becomes empty");
        PredicateProver p = program(WIDTH_2, "AC x?", "CB x=3");
        addPredicate(p, "y=1");
        p.prove(1);
        p.wipe();
        check.due("type after wiping an empty line", p.type('A'), 1);
        p.wipe();
        check.due("type after wiping one character", p.type('A'), 1);
        typed(p, "C x:1+2+3+4+5+6+7+1+2+3");
        check.due("type into the full line", p.type('+'), -1);
        p.wipe();
        p.wipe();
        check.dueThrow("edge() of the wiped line", ARGUMENT, p::edge);
        check.dueThrow("predicate() of the wiped line", ARGUMENT, p::predicate);
        check.due("type after wiping the full line", p.type('A'), 1);
        sentence("Promise 3: the line (and nothing else)");
        check.due("edges()", p.edges(), 2);
        check.due("predicates()", p.predicates(), 1);
        check.due("outcome()", p.outcome(), UNSAFE);
        check.due("nodes()", p.nodes(), 3);
        duePath(p, 0, 1);
        dueInputs(p, 3);
    }

    // ---- promises 4 and 5

    private void edgeTakesTheLine() {
        sentence("Promise 4: the line is an edge, and becomes empty: the edge's number (0, 1, ..)");
        PredicateProver p = new PredicateProver(WIDTH_2);
        String[] right = {"AC x?", "LL z?", "BA y?", "AA x:x", "CD x:((((1))))", "AB ((((x))))<((((y))))", "KL x:7-y*z&3^1+0", "AB 1=1", "AB 0<0"};
        for (int i = 0; i < right.length; i++) {
            check.due("edge() of '" + right[i] + "'", answer(typed(p, right[i])::edge), i);
            check.due("edges()", p.edges(), i + 1);
            check.due("type into the empty line", p.type('x'), 1);
            p.wipe();
        }
        sentence("Promise 4: there is no search and no outcome any more");
        for (int round = 0; round < 2; round++) {
            PredicateProver q = program(WIDTH_3, "AC x?", "CB x=3");
            check.due("prove(1)", q.prove(1), UNSAFE);
            addEdge(q, round == 0 ? "AC x=1" : "KL x?");
            dueNoSearch("after edge()", q);
        }
        PredicateProver refined = program(WIDTH_3, "AB x=3");
        refined.prove(1);
        addEdge(refined, "AC x?");
        dueNoSearch("after edge()", refined);
        check.due("the predicates stay", refined.predicates(), 1);
    }

    private void edgeRefusesWhatIsNone() {
        sentence("Promise 4: IllegalArgumentException if it is none");
        for (String wrong : new String[] {"", "A", "AC", "AC ", "AC x", "AC x:8", "AM x?", "AC  x?", "AC x:(((((1)))))", "x=1"}) {
            PredicateProver p = program(WIDTH_2, "AB x=1");
            p.prove(1);
            typed(p, wrong);
            check.dueThrow("edge() of '" + wrong + "'", ARGUMENT, p::edge);
            check.due("edges()", p.edges(), 1);
            check.due("outcome()", p.outcome(), REFINED);
            check.due("the line stays", p.type('x'), wrong.length() + 1);
        }
    }

    private static PredicateProver fullOfEdges() {
        PredicateProver p = new PredicateProver(WIDTH_1);
        for (int i = 0; i < 20; i++) {
            addEdge(p, i == 19 ? "AB x=1" : "AC x=1");
        }
        return p;
    }

    private void edgesAreAtMost20() {
        sentence("Promise 4: IllegalStateException if there are 20");
        PredicateProver p = new PredicateProver(WIDTH_1);
        for (int i = 0; i < 20; i++) {
            typed(p, i == 19 ? "AB x=1" : "AC x=1");
            check.due("edge() number " + i, answer(p::edge), i);
        }
        check.due("edges()", p.edges(), 20);
        check.due("the last one is there", p.follow(19, 1, 0), 1);
        check.due("prove(1) takes the last one", p.prove(1), REFINED);
        duePath(p, 19);
        typed(p, "AB x?");
        check.dueThrow("edge() with 20 there", STATE, p::edge);
        check.dueThrow("edge() with 20 there again", STATE, p::edge);
        check.due("edges()", p.edges(), 20);
        check.due("outcome()", p.outcome(), REFINED);
        duePath(p, 19);
        check.due("the line stays", p.type('x'), 6);
        p.clear();
        check.due("edge() after clear()", addEdge(p, "AB x?"), 0);
        sentence("Terms: the first one named that applies is thrown (edge() of what is none, with 20 there)");
        PredicateProver q = fullOfEdges();
        check.dueThrow("edge() of an empty line", ARGUMENT, q::edge);
        typed(q, "AC x");
        check.dueThrow("edge() of half an edge", ARGUMENT, q::edge);
        typed(q, "?");
        check.dueThrow("edge() of a whole one", STATE, q::edge);
    }

    private void predicateTakesTheLine() {
        sentence("Promise 5: the line is an atom, whose states become a predicate, and becomes empty: its number");
        PredicateProver p = new PredicateProver(WIDTH_2);
        String[] atoms = {"x<y", "z=3", "x+y#z"};
        for (int i = 0; i < atoms.length; i++) {
            check.due("predicate() of '" + atoms[i] + "'", answer(typed(p, atoms[i])::predicate), i);
            check.due("predicates()", p.predicates(), i + 1);
            check.due("type into the empty line", p.type('x'), 1);
            p.wipe();
        }
        for (int s = 0; s < 64; s++) {
            int x = s % 4;
            int y = s / 4 % 4;
            int z = s / 16;
            int want = (x < y ? 1 : 0) + (z == 3 ? 2 : 0) + ((x + y) % 4 != z ? 4 : 0);
            check.due("signature(" + s + ")", p.signature(s), want);
        }
        sentence("Promise 5: whether it splits or not");
        PredicateProver q = new PredicateProver(WIDTH_1);
        check.due("all states", addPredicate(q, "1=1"), 0);
        check.due("no state", addPredicate(q, "x#x"), 1);
        check.due("x=1", addPredicate(q, "x=1"), 2);
        check.due("x=1 again", addPredicate(q, "x=1"), 3);
        check.due("its opposite", addPredicate(q, "x#1"), 4);
        check.due("signature(0)", q.signature(0), 1 + 16);
        check.due("signature(1)", q.signature(1), 1 + 4 + 8);
        sentence("Promise 5: there is no search and no outcome any more");
        PredicateProver r = program(WIDTH_3, "AC x?", "CB x=3");
        check.due("prove(1)", r.prove(1), UNSAFE);
        addPredicate(r, "1=1");
        dueNoSearch("after predicate()", r);
        check.due("the edges stay", r.edges(), 2);
    }

    private void predicateRefusesWhatIsNone() {
        sentence("Promise 5: IllegalArgumentException if it is none");
        for (String wrong : new String[] {"", "x", "x<", "x=8", "x=1 ", "AB x=1", "x?", "x:1", "x=y=z", "(((((1)))))=1"}) {
            PredicateProver p = program(WIDTH_2, "AB x=1");
            p.prove(1);
            typed(p, wrong);
            check.dueThrow("predicate() of '" + wrong + "'", ARGUMENT, p::predicate);
            check.due("predicates()", p.predicates(), 1);
            check.due("outcome()", p.outcome(), REFINED);
            check.due("the line stays", p.type('x'), wrong.length() + 1);
        }
    }

    private void predicatesAreAtMost12() {
        sentence("Promise 5: IllegalStateException if there are 12");
        PredicateProver p = fill(program(WIDTH_1, "AC x?"), 11, "z=1");
        check.due("predicate() number 11", answer(typed(p, "x=1")::predicate), 11);
        check.due("predicates()", p.predicates(), 12);
        check.due("the last one is there", p.signature(1), 0x800);
        check.due("prove(1)", p.prove(1), SAFE);
        typed(p, "y=1");
        check.dueThrow("predicate() with 12 there", STATE, p::predicate);
        check.dueThrow("predicate() with 12 there again", STATE, p::predicate);
        check.due("predicates()", p.predicates(), 12);
        check.due("signature(2)", p.signature(2), 0);
        check.due("signature(7)", p.signature(7), 0xFFF);
        check.due("outcome()", p.outcome(), SAFE);
        check.due("nodes()", p.nodes(), 3);
        check.due("the line stays", p.type('x'), 4);
        p.clear();
        check.due("predicate() after clear()", addPredicate(p, "y=1"), 0);
        sentence("Promise 5: IllegalStateException if there are 12 (that came of paths)");
        PredicateProver q = fill(program(WIDTH_3, "AC x=7", "CB y=7"), 10, "1=1");
        check.due("prove(1)", q.prove(1), REFINED);
        check.dueThrow("predicate()", STATE, typed(q, "x=1")::predicate);
        check.due("outcome()", q.outcome(), REFINED);
        sentence("Terms: the first one named that applies is thrown (predicate() of what is none, with 12 there)");
        PredicateProver r = fill(new PredicateProver(WIDTH_1), 12, "1=1");
        check.dueThrow("predicate() of an empty line", ARGUMENT, r::predicate);
        typed(r, "x=");
        check.dueThrow("predicate() of half an atom", ARGUMENT, r::predicate);
        typed(r, "1");
        check.dueThrow("predicate() of a whole one", STATE, r::predicate);
    }

    // ---- promise 6

    private void clearLeavesNothing() {
        sentence("Promise 6: line, edges, predicates and search are gone");
        for (int stage = 0; stage < Stages.COUNT; stage++) {
            PredicateProver p = Stages.make(stage);
            p.clear();
            dueEmpty("after clear() of stage " + stage, p);
            addEdge(p, "AC x?");
            addEdge(p, "CB y=1");
            check.due("prove(1) of what can't be", p.prove(1), REFINED);
            check.due("nodes()", p.nodes(), 3);
            dueSets(WIDTH_2, p, 0, "y=1");
            check.due("prove(1)", p.prove(1), SAFE);
            p.clear();
            dueEmpty("after clear() again", p);
            check.due("the first edge again", addEdge(p, "AB x+y+z=0"), 0);
            check.due("the first predicate again", addPredicate(p, "x=1"), 0);
            check.due("signature(0)", p.signature(0), 0);
            check.due("prove(1)", p.prove(1), UNSAFE);
            check.due("nodes()", p.nodes(), 2);
            dueNode(p, 1, 1, 0, 0, 0);
            duePath(p, 0);
            dueInputs(p);
        }
        sentence("Promise 6: line, edges, predicates and search (but not WIDTH)");
        for (int w = WIDTH_1; w <= WIDTH_3; w++) {
            PredicateProver p = new PredicateProver(w);
            int states = states(w);
            p.clear();
            check.due("the last state", p.signature(states - 1), 0);
            check.dueThrow("behind the last state", INDEX, () -> p.signature(states));
        }
    }

    // ---- promises 7 and 8

    private void fuelIs1To40() {
        sentence("Promise 7: IllegalArgumentException if fuel is not 1 .. 40");
        PredicateProver p = program(WIDTH_2, "AC x:y+1", "CB x=0");
        for (int fuel : new int[] {0, -1, 41, 42, 256 + 1, (1 << 16) + 1, Integer.MAX_VALUE, Integer.MIN_VALUE, Integer.MIN_VALUE + 1}) {
            check.dueThrow("prove(" + fuel + ")", ARGUMENT, () -> p.prove(fuel));
        }
        dueNoSearch("after prove that throws", p);
        check.due("predicates()", p.predicates(), 0);
        check.due("prove(1)", answer(() -> p.prove(1)), REFINED);
        check.dueThrow("prove(0) after it", ARGUMENT, () -> p.prove(0));
        check.dueThrow("prove(41) after it", ARGUMENT, () -> p.prove(41));
        check.due("outcome()", p.outcome(), REFINED);
        check.due("predicates()", p.predicates(), 2);
        duePath(p, 0, 1);
        check.due("prove(40)", answer(() -> p.prove(40)), SAFE);
        check.due("prove(39)", answer(() -> p.prove(39)), SAFE);
        check.due("prove(2)", answer(() -> p.prove(2)), SAFE);
    }

    /** It takes 10 rounds, of one predicate each, to come to the round that finds no way. */
    private static PredicateProver tenRounds() {
        return program(WIDTH_3, "AC x?", "CB x*z=4");
    }

    private void proveMakesSoManyRounds() {
        sentence("Promise 7: rounds until the outcome is not 0, or so many were made: the last outcome");
        for (int fuel = 1; fuel <= 10; fuel++) {
            PredicateProver p = tenRounds();
            check.due("prove(" + fuel + ")", p.prove(fuel), REFINED);
            check.due("outcome()", p.outcome(), REFINED);
            check.due("predicates()", p.predicates(), fuel);
            check.due("length()", p.length(), 2);
        }
        PredicateProver p = tenRounds();
        check.due("prove(11)", p.prove(11), SAFE);
        check.due("predicates()", p.predicates(), 10);
        PredicateProver q = tenRounds();
        check.due("prove(40)", q.prove(40), SAFE);
        check.due("predicates()", q.predicates(), 10);
        PredicateProver r = tenRounds();
        check.due("prove(7)", r.prove(7), REFINED);
        check.due("prove(3)", r.prove(3), REFINED);
        check.due("prove(1)", r.prove(1), SAFE);
        sentence("Promise 7: rounds until the outcome is not 0 (no round after that)");
        PredicateProver full = fill(program(WIDTH_3, "AC x=7", "CB y=7"), 11, "1=1");
        check.due("prove(40), whose first round has no room", full.prove(40), NO_ROOM);
        check.due("prove(40), which sees the new predicate", full.prove(40), SAFE);
        sentence("Promise 7: rounds (at least one, whatever the outcome was)");
        PredicateProver again = program(WIDTH_3, "AC x?", "CB x=3");
        for (int i = 0; i < 3; i++) {
            check.due("prove(1)", again.prove(1), UNSAFE);
            check.due("nodes()", again.nodes(), 3);
            duePath(again, 0, 1);
            dueInputs(again, 3);
        }
    }

    private void outcomeIsTheLatest() {
        sentence("Promise 8: the outcome of the latest round");
        PredicateProver p = program(WIDTH_1, "AB x=1");
        p.prove(1);
        check.due("outcome()", p.outcome(), REFINED);
        p.prove(1);
        check.due("outcome()", p.outcome(), SAFE);
        addEdge(p, "AB x=0");
        p.prove(1);
        check.due("outcome()", p.outcome(), UNSAFE);
        PredicateProver q = fill(program(WIDTH_1, "AB x=1"), 12, "1=1");
        q.prove(1);
        check.due("outcome()", q.outcome(), NO_ROOM);
        sentence("Promise 8: -1 if there is none");
        check.due("outcome() of a new object", new PredicateProver(WIDTH_1).outcome(), -1);
        addEdge(p, "AC x=1");
        check.due("outcome() after edge()", p.outcome(), -1);
        p.prove(1);
        addPredicate(p, "x=1");
        check.due("outcome() after predicate()", p.outcome(), -1);
        p.prove(1);
        p.clear();
        check.due("outcome() after clear()", p.outcome(), -1);
        check.dueThrow("prove(0)", ARGUMENT, () -> p.prove(0));
        check.due("outcome() after prove(0)", p.outcome(), -1);
    }

    // ---- promises 9 to 13

    private void edgesAndPredicatesAreCounted() {
        PredicateProver p = new PredicateProver(WIDTH_1);
        sentence("Promise 9: how many edges there are");
        for (int i = 0; i < 20; i++) {
            check.due("edges()", p.edges(), i);
            addEdge(p, "AC x=1");
        }
        check.due("edges()", p.edges(), 20);
        check.due("predicates()", p.predicates(), 0);
        sentence("Promise 10: how many predicates there are");
        for (int i = 0; i < 12; i++) {
            check.due("predicates()", p.predicates(), i);
            addPredicate(p, "x=1");
        }
        check.due("predicates()", p.predicates(), 12);
        check.due("edges()", p.edges(), 20);
        PredicateProver q = program(WIDTH_1, "AC x=1", "CB y=1");
        q.prove(1);
        check.due("predicates() after prove(1)", q.predicates(), 2);
        check.due("edges() after prove(1)", q.edges(), 2);
    }

    private void holdsTellsMembers() {
        sentence("Promise 11: whether a state is in a predicate");
        PredicateProver p = new PredicateProver(WIDTH_2);
        addPredicate(p, "x<y");
        addPredicate(p, "z=3");
        for (int s = 0; s < 64; s++) {
            check.due("holds(0, " + s + ")", p.holds(0, s) ? 1 : 0, s % 4 < s / 4 % 4 ? 1 : 0);
            check.due("holds(1, " + s + ")", p.holds(1, s) ? 1 : 0, s / 16 == 3 ? 1 : 0);
        }
        sentence("Promise 11: IndexOutOfBoundsException if there is no such predicate");
        for (int predicate : new int[] {-1, 2, 11, 12, 31, 32, 33, Integer.MIN_VALUE, Integer.MAX_VALUE}) {
            check.dueThrow("holds(" + predicate + ", 0)", INDEX, () -> p.holds(predicate, 0) ? 1 : 0);
        }
        PredicateProver full = fill(new PredicateProver(WIDTH_1), 12, "x=1");
        check.due("holds(11, 1)", full.holds(11, 1) ? 1 : 0, 1);
        check.dueThrow("holds(12, 1)", INDEX, () -> full.holds(12, 1) ? 1 : 0);
        sentence("Promise 11: IndexOutOfBoundsException if there is no such state");
        for (int state : new int[] {-1, 64, 65, 512, Integer.MIN_VALUE, Integer.MAX_VALUE}) {
            check.dueThrow("holds(0, " + state + ")", INDEX, () -> p.holds(0, state) ? 1 : 0);
        }
        check.dueThrow("holds(2, 64)", INDEX, () -> p.holds(2, 64) ? 1 : 0);
        check.dueThrow("holds(0, 8) at WIDTH 1", INDEX, () -> full.holds(0, 8) ? 1 : 0);
        check.due("holds(0, 7) at WIDTH 1", full.holds(0, 7) ? 1 : 0, 1);
    }

    private void signatureIsAsThePredicatesAreNow() {
        sentence("Promise 12: the signature of a state, as the predicates are now");
        PredicateProver p = program(WIDTH_3, "AB x=1");
        addPredicate(p, "x=3");
        addPredicate(p, "y=5");
        addPredicate(p, "z=6");
        check.due("of none", p.signature(0), 0);
        check.due("of x=3", p.signature(3), 1);
        check.due("of y=5", p.signature(40), 2);
        check.due("of z=6", p.signature(6 * 64), 4);
        check.due("of all", p.signature(6 * 64 + 5 * 8 + 3), 7);
        p.prove(1);
        check.due("with the predicate that came", p.signature(1), 8);
        check.due("the node's signature then", p.node(1, 1), 0);
        sentence("Promise 12: IndexOutOfBoundsException if there is no such state");
        for (int state : FAR) {
            check.dueThrow("signature(" + state + ")", INDEX, () -> p.signature(state));
        }
        check.due("signature(511)", p.signature(511), 0);
        for (int w = WIDTH_1; w <= WIDTH_3; w++) {
            PredicateProver q = fill(new PredicateProver(w), 12, "z#0");
            int states = states(w);
            check.due("signature of the last state", q.signature(states - 1), 0xFFF);
            check.dueThrow("signature behind it", INDEX, () -> q.signature(states));
        }
    }

    private void followLeads() {
        sentence("Promise 13: where an edge leads from a state");
        PredicateProver p = program(WIDTH_3, "AC x:y+z", "CD y?", "DE x<y", "EF z:z*z", "BA z?");
        int state = 3 + 5 * 8 + 6 * 64;
        check.due("x:y+z", p.follow(0, state, 7), 3 + 5 * 8 + 6 * 64);
        check.due("x:y+z from 8", p.follow(0, 8, 7), 1 + 8);
        check.due("x<y", p.follow(2, state, 7), state);
        check.due("z:z*z", p.follow(3, state, 7), 3 + 5 * 8 + 4 * 64);
        sentence("Promise 13: -1 if it can't be taken there");
        check.due("x<y where it does not hold", p.follow(2, 3 + 2 * 8, 0), -1);
        check.due("x<y where they are equal", p.follow(2, 3 + 3 * 8, 0), -1);
        sentence("Promise 13: input is the number that an INPUT makes, by its lowest WIDTH bits");
        check.due("y? of 2", p.follow(1, state, 2), 3 + 2 * 8 + 6 * 64);
        check.due("y? of 7", p.follow(1, state, 7), 3 + 7 * 8 + 6 * 64);
        check.due("y? of 8", p.follow(1, state, 8), 3 + 6 * 64);
        check.due("y? of -1", p.follow(1, state, -1), 3 + 7 * 8 + 6 * 64);
        check.due("y? of the least int", p.follow(1, state, Integer.MIN_VALUE), 3 + 6 * 64);
        check.due("y? of the largest int", p.follow(1, state, Integer.MAX_VALUE), 3 + 7 * 8 + 6 * 64);
        check.due("z? of 1", p.follow(4, 511, 1), 7 + 56 + 64);
        PredicateProver narrow = program(WIDTH_1, "AC x?", "AC z?");
        check.due("x? of 2 at WIDTH 1", narrow.follow(0, 7, 2), 6);
        check.due("z? of 3 at WIDTH 1", narrow.follow(1, 0, 3), 4);
        PredicateProver middle = program(WIDTH_2, "AC y?");
        check.due("y? of 7 at WIDTH 2", middle.follow(0, 0, 7), 12);
        check.due("y? of 4 at WIDTH 2", middle.follow(0, 63, 4), 51);
    }

    private void followRefuses() {
        sentence("Promise 13: IndexOutOfBoundsException if there is no such edge");
        PredicateProver p = program(WIDTH_2, "AC x?", "AC x=1");
        for (int edge : new int[] {-1, 2, 19, 20, Integer.MIN_VALUE, Integer.MAX_VALUE}) {
            check.dueThrow("follow(" + edge + ", 0, 0)", INDEX, () -> p.follow(edge, 0, 0));
        }
        PredicateProver full = fullOfEdges();
        check.due("follow(19, 1, 0)", full.follow(19, 1, 0), 1);
        check.dueThrow("follow(20, 1, 0)", INDEX, () -> full.follow(20, 1, 0));
        sentence("Promise 13: IndexOutOfBoundsException if there is no such state");
        for (int state : new int[] {-1, 64, 512, Integer.MIN_VALUE, Integer.MAX_VALUE}) {
            check.dueThrow("follow(0, " + state + ", 0)", INDEX, () -> p.follow(0, state, 0));
            check.dueThrow("follow(2, " + state + ", 0)", INDEX, () -> p.follow(2, state, 0));
        }
        check.due("follow(0, 63, 0)", p.follow(0, 63, 0), 60);
        check.dueThrow("follow(0, 8, 0) at WIDTH 1", INDEX, () -> full.follow(0, 8, 0));
    }

    // ---- promises 14 to 18

    private void nodesAreOfTheLatestSearch() {
        sentence("Promise 14: how many nodes the latest search found");
        PredicateProver p = program(WIDTH_2, "AC x?", "CD x=1", "DB x=2");
        check.due("prove(1)", p.prove(1), REFINED);
        check.due("nodes()", p.nodes(), 4);
        check.due("prove(1)", p.prove(1), SAFE);
        check.due("nodes()", p.nodes(), 5);
        sentence("Promise 14: 0 if there is none");
        check.due("nodes() of a new object", new PredicateProver(WIDTH_1).nodes(), 0);
        addPredicate(p, "x=1");
        check.due("nodes() after predicate()", p.nodes(), 0);
    }

    private void nodeTellsFourThings() {
        sentence("Promise 15: its location (0), its signature then (1), the node from which it was found (2), the edge (3)");
        PredicateProver p = program(WIDTH_2, "CD x=1", "AC x?", "AC y?", "CB x=3", "AE z:1", "BK x=x");
        addPredicate(p, "x=2");
        addPredicate(p, "x=1");
        check.due("prove(1)", p.prove(1), UNSAFE);
        check.due("nodes()", p.nodes(), 6);
        dueNode(p, 1, 2, 0, 0, 1);
        dueNode(p, 2, 2, 1, 0, 1);
        dueNode(p, 3, 2, 2, 0, 1);
        dueNode(p, 4, 4, 0, 0, 4);
        dueNode(p, 5, 1, 0, 1, 3);
        sentence("Promise 15: -1 for node 0");
        dueNode(p, 0, 0, 0, -1, -1);
        sentence("Promise 15: IndexOutOfBoundsException if there is no such node");
        for (int i : new int[] {-1, 6, 7, 199, 200, Integer.MIN_VALUE, Integer.MAX_VALUE}) {
            check.dueThrow("node(" + i + ", 0)", INDEX, () -> p.node(i, 0));
            check.dueThrow("node(" + i + ", 3)", INDEX, () -> p.node(i, 3));
        }
        check.dueThrow("node(0, 0) of a new object", INDEX, () -> new PredicateProver(WIDTH_1).node(0, 0));
        sentence("Promise 15: IllegalArgumentException if there is no such what");
        for (int what : new int[] {-1, 4, 5, Integer.MIN_VALUE, Integer.MAX_VALUE}) {
            check.dueThrow("node(0, " + what + ")", ARGUMENT, () -> p.node(0, what));
            check.dueThrow("node(5, " + what + ")", ARGUMENT, () -> p.node(5, what));
        }
        sentence("Terms: the first one named that applies is thrown (node() without such a node and such a what)");
        check.dueThrow("node(6, 4)", INDEX, () -> p.node(6, 4));
        check.dueThrow("node(-1, -1)", INDEX, () -> p.node(-1, -1));
        check.dueThrow("node(0, 4) of a new object", INDEX, () -> new PredicateProver(WIDTH_1).node(0, 4));
    }

    private void nodesAreForgotten() {
        sentence("Promise 15: of a node of the latest search (not of an earlier one)");
        PredicateProver p = program(WIDTH_2, "AC x=2", "CD y=1", "DB z=1");
        check.due("prove(1)", p.prove(1), REFINED);
        check.due("nodes()", p.nodes(), 4);
        check.due("prove(1)", p.prove(1), SAFE);
        check.due("nodes()", p.nodes(), 1);
        check.dueThrow("node(1, 0)", INDEX, () -> p.node(1, 0));
        sentence("Promise 16: -1 if there is none (the latest search has no path)");
        check.due("length()", p.length(), -1);
        sentence("Promise 17: IndexOutOfBoundsException if there is none (the latest search has no path)");
        check.dueThrow("path(0)", INDEX, () -> p.path(0));
        check.dueThrow("path(-1)", INDEX, () -> p.path(-1));
    }

    private void pathIsOfTheLatestSearch() {
        sentence("Promise 16: how many edges the path of the latest search has");
        PredicateProver one = program(WIDTH_1, "AB x=0");
        one.prove(1);
        check.due("length() after UNSAFE", one.length(), 1);
        PredicateProver p = program(WIDTH_2, "AC x=1", "CD y=1", "DB z=1");
        p.prove(1);
        check.due("length() after REFINED", p.length(), 3);
        PredicateProver full = fill(program(WIDTH_1, "AC x=1", "CB x=x"), 12, "1=1");
        full.prove(1);
        check.due("length() after NO ROOM for a predicate", full.length(), 2);
        sentence("Promise 16: -1 if there is none");
        PredicateProver fresh = new PredicateProver(WIDTH_1);
        check.due("length() of a new object", fresh.length(), -1);
        fresh.prove(1);
        check.due("length() after SAFE", fresh.length(), -1);
        addPredicate(p, "x=1");
        check.due("length() after predicate()", p.length(), -1);
        sentence("Promise 17: the k-th edge (from 0) of that path");
        PredicateProver q = program(WIDTH_1, "DB x=x", "CD x=x", "AC x=x");
        q.prove(1);
        check.due("path(0)", q.path(0), 2);
        check.due("path(1)", q.path(1), 1);
        check.due("path(2)", q.path(2), 0);
        sentence("Promise 17: IndexOutOfBoundsException if there is none");
        for (int k : new int[] {-1, 3, 4, 199, 200, Integer.MIN_VALUE, Integer.MAX_VALUE}) {
            check.dueThrow("path(" + k + ")", INDEX, () -> q.path(k));
        }
        check.dueThrow("path(0) of a new object", INDEX, () -> new PredicateProver(WIDTH_1).path(0));
    }

    private void inputsAreOfAnUnsafePath() {
        sentence("Promise 18: the k-th input (from 0)");
        PredicateProver p = program(WIDTH_3, "AC x?", "CD y?", "DE x=6", "EB y=5");
        check.due("prove(1)", p.prove(1), UNSAFE);
        check.due("input(0)", p.input(0), 6);
        check.due("input(1)", p.input(1), 5);
        sentence("Promise 18: IndexOutOfBoundsException if there is none");
        for (int k : new int[] {-1, 2, 3, 4, 199, 200, Integer.MIN_VALUE, Integer.MAX_VALUE}) {
            check.dueThrow("input(" + k + ")", INDEX, () -> p.input(k));
        }
        check.dueThrow("input(0) of a new object", INDEX, () -> new PredicateProver(WIDTH_1).input(0));
        PredicateProver none = program(WIDTH_1, "AB x=0");
        check.due("prove(1)", none.prove(1), UNSAFE);
        check.dueThrow("input(0) of a path without INPUT", INDEX, () -> none.input(0));
        sentence("Promise 18: if the outcome is UNSAFE");
        PredicateProver refined = program(WIDTH_2, "AC x?", "CD x=1", "DB x=2");
        check.due("prove(1)", refined.prove(1), REFINED);
        check.dueThrow("input(0) after REFINED", INDEX, () -> refined.input(0));
        check.due("prove(1)", refined.prove(1), SAFE);
        check.dueThrow("input(0) after SAFE", INDEX, () -> refined.input(0));
        PredicateProver full = fill(program(WIDTH_2, "AC x?", "CD x=1", "DB x=2"), 12, "1=1");
        check.due("prove(1)", full.prove(1), NO_ROOM);
        check.dueThrow("input(0) after NO ROOM", INDEX, () -> full.input(0));
        addEdge(p, "AC x=7");
        check.dueThrow("input(0) after edge()", INDEX, () -> p.input(0));
    }

    // ---- what throws

    private void whatThrowsLeavesEverything() {
        sentence("Terms: what throws leaves everything as it was");
        for (int stage = 0; stage < Stages.COUNT; stage++) {
            PredicateProver p = Stages.make(stage);
            check.due("stage " + stage + ": outcome()", p.outcome(), Stages.OUTCOMES[stage]);
            check.due("stage " + stage + ": calls that throw", Stages.makeRefusedCalls(p), Stages.REFUSED_CALLS);
            dueSameText("stage " + stage, Stages.describe(p), Stages.describe(Stages.make(stage)));
        }
    }

    private void dueSameText(String when, String got, String want) {
        String[] gotWords = got.split(" ");
        String[] wantWords = want.split(" ");
        int same = 0;
        while (same < gotWords.length && same < wantWords.length && gotWords[same].equals(wantWords[same])) {
            same++;
        }
        check.due(when + ": words of its description that are as they were", same, wantWords.length);
        check.due(when + ": words of its description", gotWords.length, wantWords.length);
    }

    public static void main(String[] args) {
        PromisesTest test = new PromisesTest();
        test.objectsHave512Calls();
        test.widthIsOfTheLowestTwoBits();
        test.newObjectsAreEmpty();
        test.typeAppends();
        test.typeIsRefusedBehind24();
        test.wipeEmptiesTheLine();
        test.edgeTakesTheLine();
        test.edgeRefusesWhatIsNone();
        test.edgesAreAtMost20();
        test.predicateTakesTheLine();
        test.predicateRefusesWhatIsNone();
        test.predicatesAreAtMost12();
        test.clearLeavesNothing();
        test.fuelIs1To40();
        test.proveMakesSoManyRounds();
        test.outcomeIsTheLatest();
        test.edgesAndPredicatesAreCounted();
        test.holdsTellsMembers();
        test.signatureIsAsThePredicatesAreNow();
        test.followLeads();
        test.followRefuses();
        test.nodesAreOfTheLatestSearch();
        test.nodeTellsFourThings();
        test.nodesAreForgotten();
        test.pathIsOfTheLatestSearch();
        test.inputsAreOfAnUnsafePath();
        test.whatThrowsLeavesEverything();
        test.check.end("PromisesTest");
    }
}
