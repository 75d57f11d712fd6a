/** What the tests of the document's sentences share: making provers and comparing what they answer. */
abstract class Bench {
    static final Class<IllegalArgumentException> ARGUMENT = IllegalArgumentException.class;
    static final Class<IllegalStateException> STATE = IllegalStateException.class;
    static final Class<IndexOutOfBoundsException> INDEX = IndexOutOfBoundsException.class;

    static final int REFINED = 0;
    static final int SAFE = 1;
    static final int UNSAFE = 2;
    static final int NO_ROOM = 3;

    /** What the constructor is given for each WIDTH. */
    static final int WIDTH_1 = 0;
    static final int WIDTH_2 = 1;
    static final int WIDTH_3 = 2;

    final Check check = new Check();

    final void sentence(String text) {
        check.sentence(text);
    }

    // ---- making provers

    static PredicateProver typed(PredicateProver p, String text) {
        for (char c : text.toCharArray()) {
            p.type(c);
        }
        return p;
    }

    static int addEdge(PredicateProver p, String text) {
        return typed(p, text).edge();
    }

    static int addPredicate(PredicateProver p, String text) {
        return typed(p, text).predicate();
    }

    static PredicateProver program(int w, String... edges) {
        PredicateProver p = new PredicateProver(w);
        for (String edge : edges) {
            addEdge(p, edge);
        }
        return p;
    }

    /** Adds the same predicate so many times. */
    static PredicateProver fill(PredicateProver p, int times, String atom) {
        for (int i = 0; i < times; i++) {
            addPredicate(p, atom);
        }
        return p;
    }

    /** Adds a predicate for each of the three bits of each of these variables. */
    static PredicateProver tellBits(PredicateProver p, String variables) {
        for (char variable : variables.toCharArray()) {
            for (int bit = 1; bit < 8; bit *= 2) {
                addPredicate(p, variable + "&" + bit + "#0");
            }
        }
        return p;
    }

    static int states(int w) {
        return 8 << 3 * w;
    }

    // ---- comparing

    final void dueNoSearch(String when, PredicateProver p) {
        check.due(when + ": outcome()", p.outcome(), -1);
        check.due(when + ": nodes()", p.nodes(), 0);
        check.due(when + ": length()", p.length(), -1);
        check.dueThrow(when + ": node(0, 0)", INDEX, () -> p.node(0, 0));
        check.dueThrow(when + ": path(0)", INDEX, () -> p.path(0));
        check.dueThrow(when + ": input(0)", INDEX, () -> p.input(0));
    }

    /** Location, signature, from and by of a node. */
    final void dueNode(PredicateProver p, int i, int... want) {
        for (int what = 0; what < 4; what++) {
            check.due("node(" + i + ", " + what + ")", p.node(i, what), want[what]);
        }
    }

    final void duePath(PredicateProver p, int... want) {
        check.due("length()", p.length(), want.length);
        for (int k = 0; k < want.length && k < p.length(); k++) {
            check.due("path(" + k + ")", p.path(k), want[k]);
        }
        check.dueThrow("path(" + want.length + ")", INDEX, () -> p.path(want.length));
    }

    final void dueInputs(PredicateProver p, int... want) {
        for (int k = 0; k < want.length; k++) {
            int at = k;
            check.due("input(" + k + ")", answer(() -> p.input(at)), want[k]);
        }
        check.dueThrow("input(" + want.length + ")", INDEX, () -> p.input(want.length));
    }

    /** A predicate of a prover made of w has just the states in which the atom holds. */
    final void dueSet(int w, PredicateProver p, int predicate, String atom) {
        PredicateProver other = new PredicateProver(w);
        addPredicate(other, atom);
        int same = 0;
        for (int s = 0; s < states(w) && predicate < p.predicates(); s++) {
            same += p.holds(predicate, s) == other.holds(0, s) ? 1 : 0;
        }
        check.due("states in which predicate " + predicate + " is " + atom, same, states(w));
    }

    /** Its predicates from that one on are these sets, and there are no more. */
    final void dueSets(int w, PredicateProver p, int first, String... atoms) {
        check.due("predicates()", p.predicates(), first + atoms.length);
        for (int i = 0; i < atoms.length; i++) {
            dueSet(w, p, first + i, atoms[i]);
        }
    }

    /** Whether the text is an edge. */
    final void dueEdge(String text, boolean is) {
        PredicateProver p = line(text);
        dueRead("edge() of '" + text + "'", p::edge, is);
    }

    /** Whether the text can be made a predicate. */
    final void duePredicate(String text, boolean is) {
        PredicateProver p = line(text);
        dueRead("predicate() of '" + text + "'", p::predicate, is);
    }

    private PredicateProver line(String text) {
        PredicateProver p = typed(new PredicateProver(WIDTH_3), text);
        check.due("whether '" + text + "' is a line", text.length() <= 24 ? 1 : 0, 1);
        return p;
    }

    private void dueRead(String call, Check.Call made, boolean is) {
        if (is) {
            check.due(call, answer(made), 0);
        } else {
            check.dueThrow(call, ARGUMENT, made);
        }
    }

    /** Whether the text is an atom, wherever one may stand. */
    final void dueAtom(String text, boolean is) {
        dueEdge("AC " + text, is);
        duePredicate(text, is);
    }

    /** Whether the text is a term, wherever one may stand. */
    final void dueTerm(String text, boolean is) {
        dueEdge("AC x:" + text, is);
        dueAtom(text + "=0", is);
        dueAtom("0#" + text, is);
    }

    /** The value of a term in state 0. */
    final void dueValue(int w, String term, int want) {
        PredicateProver p = program(w, "AC x:" + term);
        check.due(term + " at WIDTH " + (w + 1), p.follow(0, 0, 0), want);
    }

    /** Whether an atom holds in state 0. */
    final void dueHolds(int w, String atom, boolean want) {
        PredicateProver p = new PredicateProver(w);
        addPredicate(p, atom);
        check.due(atom + " at WIDTH " + (w + 1), p.holds(0, 0) ? 1 : 0, want ? 1 : 0);
    }

    /** The answer, or a number of its own for each exception. */
    static long answer(Check.Call call) {
        try {
            return call.answer();
        } catch (IllegalStateException e) {
            return -1001;
        } catch (IllegalArgumentException e) {
            return -1002;
        } catch (IndexOutOfBoundsException e) {
            return -1003;
        }
    }
}
