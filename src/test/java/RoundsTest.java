/** The document's section "Terms", sentence by sentence, from predicates on: what a round does. */
public final class RoundsTest extends Bench {
    // ---- predicates

    private void predicatesAreAtMost12() {
        sentence("Terms: PREDICATES 0, 1, .. (at most 12) are sets of states");
        PredicateProver p = new PredicateProver(WIDTH_1);
        for (int i = 0; i < 12; i++) {
            check.due("predicate " + i, addPredicate(p, i % 2 == 0 ? "x=1" : "y=1"), i);
        }
        typed(p, "z=1");
        check.dueThrow("the thirteenth", STATE, p::predicate);
        check.due("predicates()", p.predicates(), 12);
        sentence("Terms: the SIGNATURE of a state has bit p for each predicate p that it is in");
        check.due("of no predicate", p.signature(0), 0);
        check.due("of each second one from 0 on", p.signature(1), 0x555);
        check.due("of each second one from 1 on", p.signature(2), 0xAAA);
        check.due("of all 12", p.signature(3), 0xFFF);
        check.due("z is in none", p.signature(4), 0);
    }

    /** A set of all states, or of none, has no two states of which one is in it and one is not. */
    private void wholeAndEmptySetsDoNotSplit() {
        sentence("Terms: a set SPLITS if there are two states with one signature of which one is in it and one is not");
        PredicateProver p = program(WIDTH_2, "AC 0=0", "CD x=x", "DB y=1");
        check.due("prove(1)", p.prove(1), REFINED);
        dueSets(WIDTH_2, p, 0, "y=1");
        PredicateProver none = program(WIDTH_2, "AC y:3", "CB y=1");
        check.due("prove(1), where y=1 becomes the empty set", none.prove(1), REFINED);
        dueSets(WIDTH_2, none, 0, "y=1");
        PredicateProver all = program(WIDTH_2, "AC x:1", "CD x=1", "DB y=1");
        check.due("prove(1), where x=1 becomes the set of all states", all.prove(1), REFINED);
        dueSets(WIDTH_2, all, 0, "y=1", "x=1");
    }

    private void oneStateIsEnoughToSplit() {
        sentence("Terms: a set SPLITS if there are two states (the least and the largest set that does)");
        PredicateProver one = program(WIDTH_2, "AB x&y&z=3");
        check.due("prove(1) of a set of one state", one.prove(1), REFINED);
        dueSets(WIDTH_2, one, 0, "x&y&z=3");
        PredicateProver last = program(WIDTH_1, "AC x&y&z#1", "CB x=1");
        check.due("prove(1) of a set of all states but one", last.prove(1), REFINED);
        dueSets(WIDTH_1, last, 0, "x=1", "x&y&z#1");
    }

    private void theFirstAndTheLastStateCount() {
        sentence("Terms: a set SPLITS if there are two states (one of them is state 0, or the last one)");
        for (String atom : new String[] {"1-x&(1-y)&(1-z)=1", "1-x&(1-y)&(1-z)=0", "x&y&z=1", "x&y&z=0"}) {
            PredicateProver p = program(WIDTH_1, "AC x:x", "CD " + atom, "DB 1-x&y&z=1");
            check.due("prove(1) with " + atom, p.prove(1), REFINED);
            dueSets(WIDTH_1, p, 0, "1-x&y&z=1", atom);
        }
    }

    private void setsOfWholeSignaturesDoNotSplit() {
        sentence("Terms: a set SPLITS if there are two states with one signature");
        PredicateProver p = program(WIDTH_2, "AC z:3", "CD x=y", "DB y=2");
        addPredicate(p, "x#y");
        check.due("prove(1), where x#y tells x=y apart", p.prove(1), REFINED);
        dueSets(WIDTH_2, p, 1, "y=2");
        PredicateProver q = program(WIDTH_2, "AC x:x", "CD x&1=y&1", "DB y=2");
        addPredicate(q, "x&1=1");
        addPredicate(q, "y&1=1");
        check.due("prove(1), where two predicates tell it apart", q.prove(1), REFINED);
        dueSets(WIDTH_2, q, 2, "y=2");
    }

    // ---- the search

    private void nodeZeroIsA() {
        sentence("Terms: node 0 is A with the signature of state 0");
        PredicateProver p = new PredicateProver(WIDTH_2);
        check.due("prove(1) without edges", p.prove(1), SAFE);
        check.due("nodes()", p.nodes(), 1);
        dueNode(p, 0, 0, 0, -1, -1);
        addPredicate(p, "x=1");
        addPredicate(p, "x=0");
        addPredicate(p, "y<3");
        p.prove(1);
        check.due("nodes()", p.nodes(), 1);
        dueNode(p, 0, 0, 6, -1, -1);
    }

    private void edgesAndSignaturesAreTakenInOrder() {
        sentence("Terms: for each edge of a node's location, in the order of the edges, and each signature, the least first");
        PredicateProver p = program(WIDTH_2, "CD x=1", "AE y?", "AC x?", "AC x:1", "AF z:1");
        addPredicate(p, "x=2");
        addPredicate(p, "x=1");
        addPredicate(p, "y=3");
        check.due("prove(1)", p.prove(1), SAFE);
        check.due("nodes()", p.nodes(), 8);
        dueNode(p, 0, 0, 0, -1, -1);
        dueNode(p, 1, 4, 0, 0, 1);
        dueNode(p, 2, 4, 4, 0, 1);
        dueNode(p, 3, 2, 0, 0, 2);
        dueNode(p, 4, 2, 1, 0, 2);
        dueNode(p, 5, 2, 2, 0, 2);
        dueNode(p, 6, 5, 0, 0, 4);
        dueNode(p, 7, 3, 2, 5, 0);
        addEdge(p, "CK x=2");
        addEdge(p, "CD x=x");
        p.prove(1);
        check.due("nodes()", p.nodes(), 11);
        dueNode(p, 7, 3, 0, 3, 6);
        dueNode(p, 8, 10, 1, 4, 5);
        dueNode(p, 9, 3, 1, 4, 6);
        dueNode(p, 10, 3, 2, 5, 0);
    }

    private void largeSignaturesComeLast() {
        sentence("Terms: each signature, the least first (with 12 predicates)");
        PredicateProver p = fill(program(WIDTH_1, "AC x?", "CD y?"), 10, "0=1");
        addPredicate(p, "x=0");
        addPredicate(p, "y=0");
        check.due("prove(1)", p.prove(1), SAFE);
        check.due("nodes()", p.nodes(), 7);
        dueNode(p, 0, 0, 0xC00, -1, -1);
        dueNode(p, 1, 2, 0x800, 0, 0);
        dueNode(p, 2, 2, 0xC00, 0, 0);
        dueNode(p, 3, 3, 0x000, 1, 1);
        dueNode(p, 4, 3, 0x800, 1, 1);
        dueNode(p, 5, 3, 0x400, 2, 1);
        dueNode(p, 6, 3, 0xC00, 2, 1);
    }

    private void someStateIsEnough() {
        sentence("Terms: that some state has to which the edge leads from some state with the node's signature");
        PredicateProver p = program(WIDTH_3, "AB x&y&z=7");
        check.due("prove(1), where one state of 512 can take it", p.prove(1), REFINED);
        check.due("nodes()", p.nodes(), 2);
        PredicateProver none = program(WIDTH_3, "AC 0=1", "AB x+1=x");
        check.due("prove(1), where none can take it", none.prove(1), SAFE);
        check.due("nodes()", none.nodes(), 1);
        check.due("predicates()", none.predicates(), 0);
        PredicateProver zero = program(WIDTH_1, "AC x=x", "CD x:1", "DE y:1", "EF z:1");
        addPredicate(zero, "1-x&(1-y)&(1-z)=1");
        addPredicate(zero, "x&y&z=1");
        check.due("prove(1), where signatures have one state", zero.prove(1), SAFE);
        dueNode(zero, 1, 2, 1, 0, 0);
        check.due("nodes()", zero.nodes(), 7);
        PredicateProver other = program(WIDTH_2, "AB x=3");
        addPredicate(other, "x=3");
        check.due("prove(1), where only a state with another signature can", other.prove(1), SAFE);
        check.due("nodes()", other.nodes(), 1);
    }

    private void knownNodesAreNotFoundAgain() {
        sentence("Terms: that signature with the location where the edge goes is a new node, if it is none yet");
        PredicateProver p = program(WIDTH_1, "AA x?", "AA x=x", "AC x=x", "AC y=y", "CA z?", "CC z?");
        addPredicate(p, "x=1");
        check.due("prove(1)", p.prove(1), SAFE);
        check.due("nodes()", p.nodes(), 4);
        dueNode(p, 1, 0, 1, 0, 0);
        dueNode(p, 2, 2, 0, 0, 2);
        dueNode(p, 3, 2, 1, 1, 2);
    }

    private void searchEndsAtB() {
        sentence("Terms: as soon as a node of the location B is found, the search ends");
        PredicateProver p = program(WIDTH_1, "AC x=x", "AB x?", "AD x=x", "CE x=x", "BF x=x");
        addPredicate(p, "x=1");
        check.due("prove(1)", p.prove(1), UNSAFE);
        check.due("nodes()", p.nodes(), 3);
        dueNode(p, 1, 2, 0, 0, 0);
        dueNode(p, 2, 1, 0, 0, 1);
        duePath(p, 1);
    }

    private void searchWithoutBIsSafe() {
        sentence("Terms: if none is at B, the outcome is 1, SAFE");
        PredicateProver p = program(WIDTH_1, "AC x=x", "CA x?", "DB x=x", "BA x=x");
        check.due("prove(40)", p.prove(40), SAFE);
        check.due("outcome()", p.outcome(), 1);
        check.due("nodes()", p.nodes(), 2);
        check.due("length()", p.length(), -1);
        check.dueThrow("path(0)", INDEX, () -> p.path(0));
        check.dueThrow("input(0)", INDEX, () -> p.input(0));
        check.due("predicates()", p.predicates(), 0);
    }

    /** 64 nodes at each of A, C and D, 4 at E (x = y = 1, 3, 5, 7), and what the action leaves of them at F. */
    private static PredicateProver crowd(String edgeToF) {
        return tellBits(program(WIDTH_3, "AA x?", "AA y?", "AC x=x", "AD x=x", "DE x*y=1", edgeToF), "xy");
    }

    private void nodesAreAtMost200() {
        sentence("Terms: if more than 200 nodes would be found (just 200, none at B)");
        PredicateProver p = crowd("EF x=x");
        addEdge(p, "FF x=x");
        addEdge(p, "FD x=x");
        check.due("prove(40)", p.prove(40), SAFE);
        check.due("nodes()", p.nodes(), 200);
        check.due("location of the last", p.node(199, 0), 5);
        check.dueThrow("node(200, 0)", INDEX, () -> p.node(200, 0));

        sentence("Terms: if more than 200 nodes would be found (B is the 200th)");
        PredicateProver q = crowd("EF x<7");
        addEdge(q, "FB x=5");
        check.due("prove(40)", q.prove(40), UNSAFE);
        check.due("nodes()", q.nodes(), 200);
        check.due("location of the last", q.node(199, 0), 1);
        duePath(q, 0, 1, 3, 4, 5, 6);
        dueInputs(q, 5, 5);

        sentence("Terms: if more than 200 nodes would be found, the outcome is 3, NO ROOM");
        PredicateProver r = crowd("EF x=x");
        addEdge(r, "FG x=7");
        dueOutOfNodes(r);

        sentence("Terms: if more than 200 nodes would be found (B would be the 201st)");
        PredicateProver s = crowd("EF x=x");
        addEdge(s, "FB x=7");
        dueOutOfNodes(s);
        check.due("prove(1) again", s.prove(1), NO_ROOM);
        s.clear();
        check.due("prove(1) of a cleared object", s.prove(1), SAFE);
        check.due("nodes()", s.nodes(), 1);
    }

    private void dueOutOfNodes(PredicateProver p) {
        check.due("prove(40)", p.prove(40), NO_ROOM);
        check.due("outcome()", p.outcome(), 3);
        check.due("nodes()", p.nodes(), 200);
        check.due("location of the last", p.node(199, 0), 5);
        check.due("length()", p.length(), -1);
        check.dueThrow("path(0)", INDEX, () -> p.path(0));
        check.dueThrow("input(0)", INDEX, () -> p.input(0));
        check.due("predicates()", p.predicates(), 6);
    }

    // ---- the path

    private void pathIsTheRowOfEdges() {
        sentence("Terms: the PATH is the row of edges by which that node was found, from node 0 on");
        PredicateProver shortest = program(WIDTH_1, "AC x=x", "AB x=x");
        shortest.prove(1);
        duePath(shortest, 1);
        PredicateProver p = program(WIDTH_1, "DB x=x", "CD x=x", "AE x=x", "EC x=x", "AC y=1", "AC x=x");
        addPredicate(p, "y=1");
        p.prove(1);
        duePath(p, 5, 1, 0);
        PredicateProver loop = tellBits(program(WIDTH_3, "AA x:x+1", "AB x=3"), "x");
        loop.prove(1);
        duePath(loop, 0, 0, 0, 1);
    }

    /** One way through all x and y, 199 edges up to D where y is 7; what is done at E and at the end is free. */
    private static PredicateProver longWay(String atE, String... atD) {
        PredicateProver p = program(WIDTH_3, "AF x:x+1", "CE x:x+1", atE, "FC x#0", "FD x=0");
        for (String edge : atD) {
            addEdge(p, edge);
        }
        return tellBits(p, "xy");
    }

    private void pathsHaveAtMost199Edges() {
        sentence("Terms: the PATH is the row of edges (the longest that 200 nodes have)");
        PredicateProver p = longWay("EF 1=1", "DB y=7", "DC y:y+1");
        check.due("prove(1)", p.prove(1), UNSAFE);
        check.due("nodes()", p.nodes(), 200);
        check.due("length()", p.length(), 199);
        check.due("path(0)", p.path(0), 0);
        check.due("path(1)", p.path(1), 3);
        check.due("path(197)", p.path(197), 4);
        check.due("path(198)", p.path(198), 5);
        check.dueThrow("path(199)", INDEX, () -> p.path(199));
        PredicateProver q = longWay("EF 1=1", "DC y:y+1", "DB y=7");
        check.due("prove(1), where B comes one node later", q.prove(1), NO_ROOM);
        check.due("length()", q.length(), -1);
    }

    private void pathIsTrueIfARunCanTakeIt() {
        sentence("Terms: the path is TRUE if a run can take its edges one after the other: the outcome is 2, UNSAFE");
        PredicateProver p = program(WIDTH_2, "AC x:x+3", "CD y:x*x", "DE x=3", "EB y=1");
        check.due("prove(1)", p.prove(1), UNSAFE);
        check.due("outcome()", p.outcome(), 2);
        duePath(p, 0, 1, 2, 3);
        check.due("predicates()", p.predicates(), 0);
        PredicateProver q = program(WIDTH_2, "AC x:x+3", "CD y:x*x", "DE x=3", "EB y=2");
        check.due("prove(1), where the last edge can't be taken", q.prove(1), REFINED);
        PredicateProver r = program(WIDTH_2, "AC x=1", "CB x=1");
        check.due("prove(1), where the first edge can't be taken", r.prove(1), REFINED);
        sentence("Terms: the path is TRUE if a run can take its edges (whatever an earlier path could)");
        PredicateProver other = program(WIDTH_2, "AC x=x", "CB x=0");
        check.due("prove(1)", other.prove(1), UNSAFE);
        addEdge(other, "AB x=1");
        check.due("prove(1), where a shorter path is not true", other.prove(1), REFINED);
        duePath(other, 2);
        check.due("prove(1)", other.prove(1), UNSAFE);
        duePath(other, 0, 1);
        sentence("Terms: the path is TRUE if a run can take its edges (from another state than 0 does not count)");
        PredicateProver s = program(WIDTH_2, "AC x=2", "CB x*x=0");
        check.due("prove(1)", s.prove(1), REFINED);
        check.due("prove(40)", s.prove(40), SAFE);
    }

    private void inputsAreOneForEachInput() {
        sentence("Terms: with the INPUTS of the path, one for each INPUT on it");
        PredicateProver none = program(WIDTH_1, "AC x:1", "CB x=1");
        check.due("prove(1)", none.prove(1), UNSAFE);
        dueInputs(none);
        PredicateProver one = program(WIDTH_3, "AC y:1", "CD x?", "DB x=7");
        check.due("prove(1)", one.prove(1), UNSAFE);
        dueInputs(one, 7);
        PredicateProver same = program(WIDTH_3, "AC x?", "CD y:x", "DE x?", "EF x#y", "FB y=1");
        check.due("prove(1)", same.prove(1), UNSAFE);
        dueInputs(same, 1, 0);
        PredicateProver unused = program(WIDTH_3, "AC x?", "CD x?", "DE y?", "EB x=4");
        check.due("prove(1)", unused.prove(1), UNSAFE);
        dueInputs(unused, 0, 4, 0);
        PredicateProver offPath = program(WIDTH_3, "AC x?", "AD x:2", "DB x=2");
        check.due("prove(1)", offPath.prove(1), UNSAFE);
        dueInputs(offPath);
        PredicateProver p = longWay("EF z?", "DB y&(y*2)&(y*4)&z=4", "DC y:y+1");
        check.due("prove(1)", p.prove(1), UNSAFE);
        check.due("length()", p.length(), 199);
        for (int k = 0; k < 63; k++) {
            check.due("input(" + k + ")", p.input(k), k == 62 ? 4 : 0);
        }
        check.dueThrow("input(63)", INDEX, () -> p.input(63));
    }

    private void inputsAreTheLeast() {
        sentence("Terms: that one whose first input is the least, of these that whose second is the least, and so on");
        PredicateProver p = program(WIDTH_3, "AC x?", "CD y?", "DE z?", "EB x*y+z=7");
        check.due("prove(1)", p.prove(1), UNSAFE);
        dueInputs(p, 0, 0, 7);
        PredicateProver q = program(WIDTH_3, "AC z?", "CD y?", "DE x?", "EF y<z", "FB x*y=5");
        check.due("prove(1)", q.prove(1), UNSAFE);
        dueInputs(q, 2, 1, 5);
        PredicateProver r = program(WIDTH_3, "AC x?", "CD y:x", "DE x?", "EF x<y", "FB x*3=7");
        check.due("prove(40)", r.prove(40), UNSAFE);
        dueInputs(r, 6, 5);
        sentence("Terms: whose first input is the least (0 and the largest)");
        PredicateProver edges = program(WIDTH_2, "AC x?", "CD y?", "DB x<y+1");
        check.due("prove(1)", edges.prove(1), UNSAFE);
        dueInputs(edges, 0, 0);
        PredicateProver largest = program(WIDTH_2, "AC x?", "CD y?", "DB x&y=3");
        check.due("prove(1)", largest.prove(1), UNSAFE);
        dueInputs(largest, 3, 3);
    }

    // ---- the predicates of a path that is not true

    private void setsAreTakenAlongFromTheEnd() {
        sentence("Terms: sets are TAKEN ALONG from the last edge back to the first one, none at the beginning");
        PredicateProver p = program(WIDTH_2, "AC x=1", "CD y:2", "DB z?");
        check.due("prove(1)", p.prove(1), REFINED);
        dueSets(WIDTH_2, p, 0, "x=1");
        PredicateProver q = program(WIDTH_2, "AC x<1", "CD x:x+1", "DE y=2", "EB x=3");
        check.due("prove(1)", q.prove(1), REFINED);
        duePath(q, 0, 1, 2, 3);
        dueSets(WIDTH_2, q, 0, "x=3", "y=2", "x=2", "x<1");
    }

    private void eachRoundTakesItsOwnSets() {
        sentence("Terms: sets are TAKEN ALONG, none at the beginning (none of the round before)");
        PredicateProver p = program(WIDTH_2, "AB x=3", "AC x:x+1", "CB y=1");
        check.due("prove(1)", p.prove(1), REFINED);
        dueSets(WIDTH_2, p, 0, "x=3");
        check.due("prove(1)", p.prove(1), REFINED);
        duePath(p, 1, 2);
        dueSets(WIDTH_2, p, 0, "x=3", "y=1");
        check.due("prove(1)", p.prove(1), SAFE);
    }

    private void atomsGoBehindTheOthers() {
        sentence("Terms: the set of all states in which the atom holds is taken along behind the others");
        PredicateProver p = program(WIDTH_2, "AC x:y+1", "CD x=3", "DB x<2");
        check.due("prove(1)", p.prove(1), REFINED);
        dueSets(WIDTH_2, p, 0, "x<2", "x=3", "y+1<2", "y=2");
    }

    private void assignmentsTurnSetsBack() {
        sentence("Terms: each set becomes the set of all states that the edge leads into it");
        PredicateProver p = program(WIDTH_2, "AC z:x*y", "CB z=3");
        check.due("prove(1)", p.prove(1), REFINED);
        dueSets(WIDTH_2, p, 0, "z=3", "x*y=3");
        PredicateProver q = program(WIDTH_2, "AC x:x*2", "CD x:x+1", "DB x=3");
        check.due("prove(1)", q.prove(1), REFINED);
        dueSets(WIDTH_2, q, 0, "x=3", "x=2", "x*2=2");
        sentence("Terms: each set becomes the set of all states that the edge leads into it (all states, or none)");
        PredicateProver r = program(WIDTH_2, "AC y:x", "CD x:2", "DE x=2", "EF x=1", "FB y=1");
        check.due("prove(1)", r.prove(1), REFINED);
        dueSets(WIDTH_2, r, 0, "y=1", "x=1", "x=2");
    }

    private void inputsLeaveSetsBehind() {
        sentence("Terms: at an INPUT each set for which it makes a difference is left behind");
        PredicateProver p = program(WIDTH_2, "AC x:y", "CD x?", "DE x=3", "EB x=2");
        check.due("prove(1)", p.prove(1), REFINED);
        dueSets(WIDTH_2, p, 0, "x=2", "x=3");
        sentence("Terms: it makes a difference (two states that differ in that variable alone, one in it and one not)");
        PredicateProver few = program(WIDTH_2, "AC y:y+1", "CD x?", "DE x&y&z=3", "EB x=2");
        check.due("prove(1), where one y and z makes the difference", few.prove(1), REFINED);
        dueSets(WIDTH_2, few, 0, "x=2", "x&y&z=3");
        PredicateProver lastBit = program(WIDTH_3, "AC x:y", "CD x?", "DE x<4", "EB x=4");
        check.due("prove(1), where only the largest bit of the input does", lastBit.prove(1), REFINED);
        check.due("predicates()", lastBit.predicates(), 2);
        sentence("Terms: each set for which it makes a difference is left behind (the others are not)");
        PredicateProver q = program(WIDTH_2, "AC z:x+1", "CD x?", "DE z=3", "EB x=x+y");
        check.due("prove(1)", q.prove(1), REFINED);
        dueSets(WIDTH_2, q, 0, "x=x+y", "z=3", "x=2");
        PredicateProver only = program(WIDTH_2, "AC z:y+1", "CD x?", "DB z=3");
        check.due("prove(1), where the only one stays", only.prove(1), REFINED);
        dueSets(WIDTH_2, only, 0, "z=3", "y=2");
        PredicateProver r = program(WIDTH_2, "AC y:z", "CD z?", "DE y=1", "EF z=1", "FB x=1");
        check.due("prove(1), where the middle one of three is left behind", r.prove(1), REFINED);
        dueSets(WIDTH_2, r, 0, "x=1", "z=1", "y=1");
    }

    private void splittingSetsBecomePredicatesInOrder() {
        sentence("Terms: after each edge, each set that is taken along and splits then, in their order, becomes a predicate");
        PredicateProver p = program(WIDTH_2, "AC x:y", "CD x=1", "DE x=2", "EB x=3");
        check.due("prove(1)", p.prove(1), REFINED);
        dueSets(WIDTH_2, p, 0, "x=3", "x=2", "x=1", "y=3", "y=2", "y=1");
        sentence("Terms: each set that splits then (two equal sets give one predicate)");
        PredicateProver q = program(WIDTH_2, "AC x:y+1", "CD x<1", "DB x=0");
        check.due("prove(1)", q.prove(1), REFINED);
        dueSets(WIDTH_2, q, 0, "x=0", "y=3");
        PredicateProver r = program(WIDTH_2, "AC x:y+1", "CD x#0", "DB x=0");
        check.due("prove(1), where one is the other's opposite", r.prove(1), REFINED);
        dueSets(WIDTH_2, r, 0, "x=0", "y=3");
        sentence("Terms: becomes a predicate (and goes on to be taken along)");
        PredicateProver s = program(WIDTH_3, "AC x:x+1", "CD x:x+1", "DE x:x+1", "EB x=1");
        check.due("prove(1)", s.prove(1), REFINED);
        dueSets(WIDTH_3, s, 0, "x=1", "x=0", "x=7", "x=6");
    }

    /** x and y count from 0 to 56 on the path, so more than 100 sets come to its first edges. */
    private void manySetsAreTakenAlong() {
        sentence("Terms: each set that is taken along (the first and the last of many)");
        PredicateProver p = program(WIDTH_3, "AI z:z+2", "IH z?", "HG z:z+3", "GC z=5", "CD 1=1", "DE x:x+1", "EC x#0", "EF x=0", "FC y:y+1", "CK y=7", "KB z=1");
        tellBits(p, "xy");
        check.due("prove(1)", p.prove(1), REFINED);
        check.due("length()", p.length(), 4 + 49 * 3 + 7 * 4 + 2);
        dueSets(WIDTH_3, p, 6, "z=1", "z=5", "z=6", "z=2");
        check.due("the counters make 64 nodes at each of 3 locations", p.prove(1), NO_ROOM);
        check.due("nodes()", p.nodes(), 200);
    }

    /**
     * A way with so many atoms on it, counted from its end: z=1 is the first and z=5 the last. Between them x
     * and y count up to y = turns, with some atoms that always hold at each step and some before the first one.
     */
    private static PredicateProver manyAtoms(int turns, int atEachStep, int before, boolean movesZ) {
        String places = (movesZ ? "A" : "") + (movesZ ? "CDEFGHI" : "ACDEFGHI").substring(0, before + 2 + atEachStep);
        int start = movesZ ? 1 : 0;
        char first = places.charAt(start + before + 1);
        char last = places.charAt(places.length() - 1);
        PredicateProver p = tellBits(new PredicateProver(WIDTH_3), "xy");
        for (int i = 0; i + 1 < places.length(); i++) {
            addEdge(p, places.substring(i, i + 2) + (i < start ? " z:z+3" : i == start ? " z=5" : " 1=1"));
        }
        addEdge(p, last + "J x=7");
        addEdge(p, "JL y:y+1");
        addEdge(p, last + "L x#7");
        addEdge(p, "L" + first + " x:x+1");
        addEdge(p, last + "K y=" + turns);
        addEdge(p, "KB z=1");
        return p;
    }

    /** How many edges of the path have an atom is seen by its length: a turn has 9 that assign to x or y. */
    private void dueManyAtoms(int atoms, int turns, int atEachStep, int before) {
        PredicateProver p = manyAtoms(turns, atEachStep, before, false);
        check.due("prove(1)", p.prove(1), REFINED);
        check.due("edges with an atom", p.length() - turns * 9, atoms);
        dueSets(WIDTH_3, p, 6, "z=1", "z=5");
        p.clear();
        addEdge(p, "AC x=1");
        addEdge(p, "CB y:2");
        check.due("prove(1) of one set after so many", p.prove(1), REFINED);
        dueSets(WIDTH_3, p, 0, "x=1");
    }

    private void soManySetsAreTakenAlong() {
        sentence("Terms: each set that is taken along (the 64th, 65th, 128th and 129th of a path)");
        dueManyAtoms(64, 7, 0, 5);
        dueManyAtoms(65, 7, 0, 6);
        dueManyAtoms(128, 3, 4, 1);
        dueManyAtoms(129, 3, 4, 2);
        sentence("Terms: in their order (the first and the 64th, the first and the 128th of a path)");
        PredicateProver[] moved = {manyAtoms(7, 0, 5, true), manyAtoms(3, 4, 1, true)};
        for (PredicateProver p : moved) {
            check.due("prove(1)", p.prove(1), REFINED);
            dueSets(WIDTH_3, p, 6, "z=1", "z=5", "z=6", "z=2");
        }
    }

    /** 63 atoms z=1 and one that needs z=7 come to the first edge, with 12 predicates there, and all of them split then. */
    private void allSetsSplitAtOnce() {
        sentence("Terms: after each edge, each set that is taken along and splits then (all 64 of a path)");
        PredicateProver p = tellBits(program(WIDTH_3, "AC z:z+3", "CB x&z=7"), "x");
        String places = "CDEFGHIJKL";
        for (int i = 0; i + 1 < places.length(); i++) {
            addEdge(p, places.substring(i, i + 2) + " z=1");
        }
        addEdge(p, "LC x:x+1");
        check.due("prove(1)", p.prove(1), NO_ROOM);
        check.due("edges with an atom", p.length() - 8, 64);
        dueSets(WIDTH_3, p, 3, "x&z=7", "x+1&z=7", "z=1", "x+2&z=7", "x+3&z=7", "x+4&z=7", "x+5&z=7", "x+6&z=7", "x+7&z=7");
    }

    // ---- bits

    /** x is any number: x * z = 4 can hold for any z but 0, and all bits are needed to tell 0 apart. */
    private static PredicateProver needsAllBits() {
        return program(WIDTH_3, "AC x?", "CB x*z=4");
    }

    private void bitsAreTakenInOrder() {
        sentence("Terms: when no predicate came of the whole path, the first one of the sets that splits becomes one");
        PredicateProver p = needsAllBits();
        for (int round = 0; round < 10; round++) {
            check.due("round " + round, p.prove(1), REFINED);
            check.due("predicates after round " + round, p.predicates(), round + 1);
            duePath(p, 0, 1);
        }
        check.due("the last round", p.prove(1), SAFE);
        sentence("Terms: of x, then y, then z, of each bit 0, 1, .. , the states in which it is 1");
        String[] bits = new String[10];
        bits[0] = "x*z=4";
        for (int i = 0; i < 9; i++) {
            bits[i + 1] = "xyz".charAt(i / 3) + "&" + (1 << i % 3) + "#0";
        }
        dueSets(WIDTH_3, p, 0, bits);
        PredicateProver narrow = program(WIDTH_1, "AC x?", "CB x^y&z=1");
        check.due("prove(40) at WIDTH 1", narrow.prove(40), SAFE);
        dueSets(WIDTH_1, narrow, 0, "x^y&z=1", "x=1", "y=1", "z=1");
    }

    private void bitsDoNotDependOnThePath() {
        sentence("Terms: of each bit 0, 1, .. , the states in which it is 1 (whatever sets came along the path)");
        PredicateProver p = program(WIDTH_3, "AC x?", "CD y:y", "DE 0=0", "EF 1=1", "FB x*z=4");
        check.due("prove(4)", p.prove(4), REFINED);
        dueSets(WIDTH_3, p, 0, "x*z=4", "x&1#0", "x&2#0", "x&4#0");
    }

    private void bitsThatDoNotSplitArePassedOver() {
        sentence("Terms: the first one of the sets that splits (not one that splits no more)");
        PredicateProver p = needsAllBits();
        addPredicate(p, "x*z=4");
        addPredicate(p, "x&1=0");
        addPredicate(p, "x&4#0");
        check.due("prove(1), where bits 0 and 2 of x are told", p.prove(1), REFINED);
        dueSets(WIDTH_3, p, 3, "x&2#0");
        check.due("prove(1), where all bits of x are told", p.prove(1), REFINED);
        dueSets(WIDTH_3, p, 3, "x&2#0", "y&1#0");
    }

    private void bitsComeOnlyWithoutOthers() {
        sentence("Terms: when no predicate came of the whole path (one came, so no bit does)");
        PredicateProver p = needsAllBits();
        check.due("prove(1)", p.prove(1), REFINED);
        dueSets(WIDTH_3, p, 0, "x*z=4");
        PredicateProver first = program(WIDTH_2, "AC y=3", "CD x?", "DB x<z");
        addPredicate(first, "x<z");
        check.due("prove(1), where one came of the first edge", first.prove(1), REFINED);
        dueSets(WIDTH_2, first, 1, "y=3");
    }

    // ---- no room for predicates

    private void theTwelfthStillComes() {
        sentence("Terms: the outcome is 0, REFINED (the last one is the twelfth)");
        PredicateProver p = fill(program(WIDTH_3, "AC x=7", "CB y=7"), 10, "1=1");
        check.due("prove(1)", p.prove(1), REFINED);
        check.due("outcome()", p.outcome(), 0);
        dueSets(WIDTH_3, p, 10, "y=7", "x=7");
        PredicateProver bit = fill(needsAllBits(), 2, "1=1");
        check.due("prove(12), whose last predicate is a bit", bit.prove(12), SAFE);
        check.due("predicates()", bit.predicates(), 12);
    }

    private void theThirteenthHasNoRoom() {
        sentence("Terms: or 3, NO ROOM, as soon as a predicate would come that is the thirteenth (those before stay)");
        PredicateProver p = fill(program(WIDTH_3, "AC x=7", "CB y=7"), 11, "1=1");
        check.due("prove(1)", p.prove(1), NO_ROOM);
        check.due("outcome()", p.outcome(), 3);
        dueSets(WIDTH_3, p, 11, "y=7");
        check.due("nodes()", p.nodes(), 3);
        check.due("the signature then", p.node(0, 1), 0x7FF);
        duePath(p, 0, 1);
        dueInputs(p);
        PredicateProver full = fill(program(WIDTH_3, "AC x=7", "CB y=7"), 12, "1=1");
        check.due("prove(40) with 12 there", full.prove(40), NO_ROOM);
        check.due("predicates()", full.predicates(), 12);
        check.due("prove(40) again", full.prove(40), NO_ROOM);
    }

    /** Each way back through DC makes a set of its own of what has to hold at the end: y = 7, 6, .. and z > 3. */
    private void theThirteenthComesInTheMiddleOfAPath() {
        sentence("Terms: as soon as a predicate would come that is the thirteenth (in the middle of the longest path)");
        PredicateProver p = longWay("EF 1=1", "DB y&(y*2)&(y*4)&z=4", "DC y:y+1");
        check.due("prove(1)", p.prove(1), NO_ROOM);
        check.due("length()", p.length(), 199);
        String[] sets = new String[6];
        for (int i = 0; i < 6; i++) {
            sets[i] = "y^i&(y^i*2)&(y^i*4)&z=4".replace('i', (char) ('0' + i));
        }
        dueSets(WIDTH_3, p, 6, sets);
    }

    private void theThirteenthBitHasNoRoom() {
        sentence("Terms: as soon as a predicate would come that is the thirteenth (a bit)");
        PredicateProver p = fill(needsAllBits(), 3, "1=1");
        check.due("prove(40)", p.prove(40), NO_ROOM);
        check.due("predicates()", p.predicates(), 12);
        dueSet(WIDTH_3, p, 11, "z&2#0");
        duePath(p, 0, 1);
        dueInputs(p);
        check.due("prove(40) again", p.prove(40), NO_ROOM);
        PredicateProver full = fill(needsAllBits(), 12, "x*z=4");
        check.due("prove(1), where the path's own set is known", full.prove(1), NO_ROOM);
        check.due("predicates()", full.predicates(), 12);
    }

    private void twelvePredicatesNeedNoMore() {
        sentence("Terms: as soon as a predicate would come (with 12 there and none needed)");
        check.due("a true path", fill(program(WIDTH_2, "AB x=0"), 12, "y=1").prove(40), UNSAFE);
        check.due("no path", fill(program(WIDTH_2, "AB x=1"), 12, "x=1").prove(40), SAFE);
    }

    public static void main(String[] args) {
        RoundsTest test = new RoundsTest();
        test.predicatesAreAtMost12();
        test.wholeAndEmptySetsDoNotSplit();
        test.oneStateIsEnoughToSplit();
        test.theFirstAndTheLastStateCount();
        test.setsOfWholeSignaturesDoNotSplit();
        test.nodeZeroIsA();
        test.edgesAndSignaturesAreTakenInOrder();
        test.largeSignaturesComeLast();
        test.someStateIsEnough();
        test.knownNodesAreNotFoundAgain();
        test.searchEndsAtB();
        test.searchWithoutBIsSafe();
        test.nodesAreAtMost200();
        test.pathIsTheRowOfEdges();
        test.pathsHaveAtMost199Edges();
        test.pathIsTrueIfARunCanTakeIt();
        test.inputsAreOneForEachInput();
        test.inputsAreTheLeast();
        test.setsAreTakenAlongFromTheEnd();
        test.eachRoundTakesItsOwnSets();
        test.atomsGoBehindTheOthers();
        test.assignmentsTurnSetsBack();
        test.inputsLeaveSetsBehind();
        test.splittingSetsBecomePredicatesInOrder();
        test.manySetsAreTakenAlong();
        test.soManySetsAreTakenAlong();
        test.allSetsSplitAtOnce();
        test.bitsAreTakenInOrder();
        test.bitsDoNotDependOnThePath();
        test.bitsThatDoNotSplitArePassedOver();
        test.bitsComeOnlyWithoutOthers();
        test.theTwelfthStillComes();
        test.theThirteenthHasNoRoom();
        test.theThirteenthComesInTheMiddleOfAPath();
        test.theThirteenthBitHasNoRoom();
        test.twelvePredicatesNeedNoMore();
        test.check.end("RoundsTest");
    }
}
