import java.util.Arrays;

/**
 * Decides whether a program of three small numbers can come to its error: states are put together by
 * predicates, the program is searched over what is left, a way to the error that does not exist in
 * truth gives new predicates, and so on, until there is no way or a true one, with the inputs that
 * lead there.
 */
public final class PredicateProver {
    private static final int NO_OUTCOME = -1;
    private static final int REFINED = 0;
    private static final int SAFE = 1;
    private static final int UNSAFE = 2;
    private static final int NO_ROOM = 3;

    private static final int MOST_FUEL = 40;
    private static final int MOST_CHARACTERS = 24;
    private static final int MOST_DEPTH = 4;
    private static final int MOST_EDGES = 20;
    private static final int MOST_PREDICATES = 12;
    private static final int MOST_NODES = 200;
    private static final int VARIABLES = 3;
    private static final int LOCATIONS = 12;
    private static final int ERROR_LOCATION = 1;

    private static final int NO_EDGE = -1;
    private static final int TEST = 0;
    private static final int ASSIGNMENT = 1;
    private static final int INPUT = 2;

    private final Space space;
    private final Line line;
    private final Formula formula;
    private final Parser parser;
    private final Program program;
    private final Groups groups;
    private final Search search;
    private final Replay replay;
    private final Refiner refiner;
    private int lastOutcome;

    public PredicateProver(int w) {
        Space ownSpace = new Space(w);
        Line ownLine = new Line();
        Formula ownFormula = new Formula(ownSpace);
        Program ownProgram = new Program(ownSpace);
        Groups ownGroups = new Groups(ownSpace);
        Search ownSearch = new Search(ownSpace, ownProgram, ownGroups);
        space = ownSpace;
        line = ownLine;
        formula = ownFormula;
        parser = new Parser(ownLine, ownFormula);
        program = ownProgram;
        groups = ownGroups;
        search = ownSearch;
        replay = new Replay(ownSpace, ownProgram, ownSearch);
        refiner = new Refiner(ownSpace, ownProgram, ownGroups, ownSearch);
        lastOutcome = NO_OUTCOME;
    }

    public int type(char c) {
        return line.append(c);
    }

    public void wipe() {
        line.makeEmpty();
    }

    public int edge() throws IllegalArgumentException, IllegalStateException {
        int kind = parser.readEdge();
        if (kind == NO_EDGE) {
            throw new IllegalArgumentException("the line is no edge");
        }
        if (program.isFull()) {
            throw new IllegalStateException("there are 20 edges");
        }
        int number = program.add(kind, line, formula);
        line.makeEmpty();
        forgetSearch();
        return number;
    }

    public int predicate() throws IllegalArgumentException, IllegalStateException {
        if (!parser.readAtom(0)) {
            throw new IllegalArgumentException("the line is no atom");
        }
        if (groups.isFull()) {
            throw new IllegalStateException("there are 12 predicates");
        }
        int number = groups.count;
        for (int state = 0; state < space.states; state++) {
            if (formula.valueIn(state) != 0) {
                groups.include(state);
            }
        }
        groups.endPredicate();
        line.makeEmpty();
        forgetSearch();
        return number;
    }

    public void clear() {
        line.makeEmpty();
        program.count = 0;
        groups.dropPredicates();
        forgetSearch();
    }

    public int prove(int fuel) throws IllegalArgumentException {
        if (fuel < 1 || fuel > MOST_FUEL) {
            throw new IllegalArgumentException("fuel is not 1 .. 40");
        }
        lastOutcome = REFINED;
        for (int made = 0; made < fuel && lastOutcome == REFINED; made++) {
            lastOutcome = makeRound();
        }
        return lastOutcome;
    }

    public int outcome() {
        return lastOutcome;
    }

    public int edges() {
        return program.count;
    }

    public int predicates() {
        return groups.count;
    }

    public boolean holds(int predicate, int state) throws IndexOutOfBoundsException {
        if (predicate < 0 || predicate >= groups.count || !space.contains(state)) {
            throw new IndexOutOfBoundsException("no such predicate or state");
        }
        return (groups.signature[state] >> predicate & 1) != 0;
    }

    public short signature(int state) throws IndexOutOfBoundsException {
        if (!space.contains(state)) {
            throw new IndexOutOfBoundsException("no such state");
        }
        return (short) groups.signature[state];
    }

    public int follow(int edge, int state, int input) throws IndexOutOfBoundsException {
        if (edge < 0 || edge >= program.count || !space.contains(state)) {
            throw new IndexOutOfBoundsException("no such edge or state");
        }
        return program.step(edge, state, input);
    }

    public int nodes() {
        return search.count;
    }

    public int node(int i, int what) throws IndexOutOfBoundsException, IllegalArgumentException {
        if (i < 0 || i >= search.count) {
            throw new IndexOutOfBoundsException("no such node");
        }
        switch (what) {
            case 0:
                return search.location[i];
            case 1:
                return search.signature[i];
            case 2:
                return search.parent[i];
            case 3:
                return search.byEdge[i];
            default:
                throw new IllegalArgumentException("no such what");
        }
    }

    public int length() {
        return search.pathLength;
    }

    public int path(int k) throws IndexOutOfBoundsException {
        if (k < 0 || k >= search.pathLength) {
            throw new IndexOutOfBoundsException("no such edge of a path");
        }
        return search.pathEdge[k];
    }

    public int input(int k) throws IndexOutOfBoundsException {
        if (k < 0 || k >= replay.inputCount) {
            throw new IndexOutOfBoundsException("no such input");
        }
        return replay.inputs[k];
    }

    private void forgetSearch() {
        search.forget();
        replay.forget();
        lastOutcome = NO_OUTCOME;
    }

    private int makeRound() {
        replay.forget();
        search.run();
        if (search.outOfRoom) {
            return NO_ROOM;
        }
        if (search.pathLength < 0) {
            return SAFE;
        }
        if (replay.succeeds()) {
            return UNSAFE;
        }
        return refiner.refine() ? REFINED : NO_ROOM;
    }

    /** All states: three variables of WIDTH bits, packed into one number. */
    private static final class Space {
        final int width;
        final int mask;
        final int states;

        Space(int w) {
            int asked = 1 + (w & 3);
            width = asked > 3 ? 3 : asked;
            mask = (1 << width) - 1;
            states = 1 << (VARIABLES * width);
        }

        boolean contains(int state) {
            return state >= 0 && state < states;
        }

        int read(int state, int variable) {
            return state >> (variable * width) & mask;
        }

        int write(int state, int variable, int value) {
            int shift = variable * width;
            return state & ~(mask << shift) | (value & mask) << shift;
        }
    }

    /** The characters typed so far. */
    private static final class Line {
        /** No character of a line is this one, so it can stand for "behind the last". */
        static final char END = 0;

        private final char[] characters = new char[MOST_CHARACTERS];
        private int size = 0;

        int append(char c) {
            if (c < ' ' || c > '~' || size >= MOST_CHARACTERS) {
                return -1;
            }
            characters[size] = c;
            size++;
            return size;
        }

        char at(int i) {
            return i >= 0 && i < size ? characters[i] : END;
        }

        void makeEmpty() {
            size = 0;
        }
    }

    /** A term or an atom with its operators behind their two sides, so that it needs no parentheses. */
    private static final class Formula {
        private final Space space;
        private final char[] code = new char[MOST_CHARACTERS];
        private final int[] stack = new int[MOST_CHARACTERS];
        private int size = 0;

        Formula(Space space) {
            this.space = space;
        }

        static boolean isVariable(char c) {
            return c >= 'x' && c <= 'z';
        }

        static boolean isDigit(char c) {
            return c >= '0' && c <= '7';
        }

        void begin() {
            size = 0;
        }

        void add(char c) {
            if (size < MOST_CHARACTERS) {
                code[size] = c;
                size++;
            }
        }

        /** The value of a term; of an atom 1 where it holds, else 0. */
        int valueIn(int state) {
            int height = 0;
            for (int i = 0; i < size; i++) {
                char c = code[i];
                if (isVariable(c)) {
                    stack[height] = space.read(state, c - 'x');
                    height++;
                } else if (isDigit(c)) {
                    stack[height] = (c - '0') & space.mask;
                    height++;
                } else if (height >= 2) {
                    height--;
                    stack[height - 1] = combine(c, stack[height - 1], stack[height]) & space.mask;
                }
            }
            return stack[0];
        }

        private static int combine(char operator, int left, int right) {
            switch (operator) {
                case '+':
                    return left + right;
                case '-':
                    return left - right;
                case '*':
                    return left * right;
                case '&':
                    return left & right;
                case '^':
                    return left ^ right;
                case '<':
                    return left < right ? 1 : 0;
                case '=':
                    return left == right ? 1 : 0;
                default:
                    return left != right ? 1 : 0;
            }
        }
    }

    /** Reads what the line says; its term or atom goes into the formula. */
    private static final class Parser {
        private final Line line;
        private final Formula formula;
        private int place = 0;

        Parser(Line line, Formula formula) {
            this.line = line;
            this.formula = formula;
        }

        /** The kind of the action of the edge that the line is, or NO_EDGE. */
        int readEdge() {
            if (!isLocation(line.at(0)) || !isLocation(line.at(1)) || line.at(2) != ' ') {
                return NO_EDGE;
            }
            if (Formula.isVariable(line.at(3)) && line.at(4) == '?') {
                return line.at(5) == Line.END ? INPUT : NO_EDGE;
            }
            if (Formula.isVariable(line.at(3)) && line.at(4) == ':') {
                return readTerm(5) ? ASSIGNMENT : NO_EDGE;
            }
            return readAtom(3) ? TEST : NO_EDGE;
        }

        /** Whether the line from there to its end is an atom. */
        boolean readAtom(int start) {
            place = start;
            formula.begin();
            if (!passTerm(0)) {
                return false;
            }
            char comparison = line.at(place);
            if (!isComparison(comparison)) {
                return false;
            }
            place++;
            if (!passTerm(0)) {
                return false;
            }
            formula.add(comparison);
            return line.at(place) == Line.END;
        }

        private boolean readTerm(int start) {
            place = start;
            formula.begin();
            return passTerm(0) && line.at(place) == Line.END;
        }

        private boolean passTerm(int depth) {
            if (!passPart(depth)) {
                return false;
            }
            for (int i = 0; i < MOST_CHARACTERS && isOperator(line.at(place)); i++) {
                char operator = line.at(place);
                place++;
                if (!passPart(depth)) {
                    return false;
                }
                formula.add(operator);
            }
            return true;
        }

        private boolean passPart(int depth) {
            char c = line.at(place);
            if (Formula.isVariable(c) || Formula.isDigit(c)) {
                formula.add(c);
                place++;
                return true;
            }
            if (c != '(' || depth >= MOST_DEPTH) {
                return false;
            }
            place++;
            if (!passTerm(depth + 1) || line.at(place) != ')') {
                return false;
            }
            place++;
            return true;
        }

        private static boolean isLocation(char c) {
            return c >= 'A' && c < 'A' + LOCATIONS;
        }

        private static boolean isOperator(char c) {
            return c == '+' || c == '-' || c == '*' || c == '&' || c == '^';
        }

        private static boolean isComparison(char c) {
            return c == '<' || c == '=' || c == '#';
        }
    }

    /** The edges, each with its target for every state, so that no formula is kept. */
    private static final class Program {
        private final Space space;
        final int[] from = new int[MOST_EDGES];
        final int[] to = new int[MOST_EDGES];
        final int[] kind = new int[MOST_EDGES];
        private final int[] variable = new int[MOST_EDGES];
        /** -1 where the edge can't be taken; at an INPUT the state with 0 put in. */
        final int[][] target;
        int count = 0;

        Program(Space space) {
            this.space = space;
            target = new int[MOST_EDGES][space.states];
        }

        boolean isFull() {
            return count >= MOST_EDGES;
        }

        /** The number of the new edge: the line is one, and its term or atom is the formula. */
        int add(int newKind, Line line, Formula formula) {
            int edge = count;
            from[edge] = line.at(0) - 'A';
            to[edge] = line.at(1) - 'A';
            kind[edge] = newKind;
            variable[edge] = newKind == TEST ? 0 : line.at(3) - 'x';
            for (int state = 0; state < space.states; state++) {
                target[edge][state] = targetOf(edge, state, formula);
            }
            count++;
            return edge;
        }

        private int targetOf(int edge, int state, Formula formula) {
            if (kind[edge] == INPUT) {
                return space.write(state, variable[edge], 0);
            }
            int value = formula.valueIn(state);
            if (kind[edge] == ASSIGNMENT) {
                return space.write(state, variable[edge], value);
            }
            return value != 0 ? state : -1;
        }

        int step(int edge, int state, int input) {
            int reached = target[edge][state];
            return kind[edge] == INPUT ? space.write(reached, variable[edge], input) : reached;
        }

        /** How many inputs have to be tried to see all states to which the edge leads. */
        int choices(int edge) {
            return kind[edge] == INPUT ? space.mask + 1 : 1;
        }
    }

    /** The predicates, kept as the signature of each state, and the groups of states with one signature. */
    private static final class Groups {
        private final Space space;
        int count = 0;
        final int[] signature;
        /** Groups are numbered by their signatures, the least first. */
        int groupCount = 0;
        final int[] groupOf;
        /** All states, group by group: group g has members start[g] .. start[g + 1] - 1. */
        final int[] member;
        final int[] start;
        private final int[] groupOfSignature = new int[1 << MOST_PREDICATES];

        Groups(Space space) {
            this.space = space;
            signature = new int[space.states];
            groupOf = new int[space.states];
            member = new int[space.states];
            start = new int[space.states + 1];
            numberGroups();
            placeStates();
        }

        boolean isFull() {
            return count >= MOST_PREDICATES;
        }

        void dropPredicates() {
            count = 0;
            Arrays.fill(signature, 0);
            numberGroups();
            placeStates();
        }

        /** Puts a state into the predicate that is being made, for which there must be room. */
        void include(int state) {
            signature[state] |= 1 << count;
        }

        void endPredicate() {
            count++;
            numberGroups();
            placeStates();
        }

        int signatureOf(int group) {
            return signature[member[start[group]]];
        }

        /** Bit b of row[state] says whether the state is in set b: the bits of the sets that split. */
        long splitting(long[] row) {
            long bits = 0;
            for (int state = 0; state < space.states; state++) {
                bits |= row[state] ^ row[member[start[groupOf[state]]]];
            }
            return bits;
        }

        private void numberGroups() {
            int signatures = 1 << count;
            Arrays.fill(groupOfSignature, 0, signatures, -1);
            for (int state = 0; state < space.states; state++) {
                groupOfSignature[signature[state]] = 0;
            }
            groupCount = 0;
            for (int i = 0; i < signatures; i++) {
                if (groupOfSignature[i] == 0) {
                    groupOfSignature[i] = groupCount;
                    groupCount++;
                }
            }
        }

        private void placeStates() {
            Arrays.fill(start, 0);
            for (int state = 0; state < space.states; state++) {
                groupOf[state] = groupOfSignature[signature[state]];
                start[groupOf[state]]++;
            }
            for (int group = 1; group <= groupCount; group++) {
                start[group] += start[group - 1];
            }
            // start has the groups' ends now, and each member moves its group's one to the front
            for (int state = 0; state < space.states; state++) {
                int group = groupOf[state];
                start[group]--;
                member[start[group]] = state;
            }
        }
    }

    /** The search over pairs of a location and a group of states. */
    private static final class Search {
        private final Space space;
        private final Program program;
        private final Groups groups;
        int count = 0;
        final int[] location = new int[MOST_NODES];
        final int[] signature = new int[MOST_NODES];
        final int[] parent = new int[MOST_NODES];
        final int[] byEdge = new int[MOST_NODES];
        private final int[] group = new int[MOST_NODES];
        private final int[] depth = new int[MOST_NODES];
        private final byte[] known;
        private final byte[] reached;
        boolean outOfRoom = false;
        /** -1 if there is no path. */
        int pathLength = -1;
        final int[] pathEdge = new int[MOST_NODES];

        Search(Space space, Program program, Groups groups) {
            this.space = space;
            this.program = program;
            this.groups = groups;
            known = new byte[LOCATIONS * space.states];
            reached = new byte[space.states];
        }

        void forget() {
            count = 0;
            outOfRoom = false;
            pathLength = -1;
        }

        void run() {
            forget();
            Arrays.fill(known, (byte) 0);
            addNode(0, groups.groupOf[0], -1, -1);
            boolean ended = false;
            for (int node = 0; node < count && node < MOST_NODES && !ended; node++) {
                for (int edge = 0; edge < program.count && !ended; edge++) {
                    if (program.from[edge] == location[node]) {
                        ended = take(node, edge);
                    }
                }
            }
        }

        /** Adds the new nodes behind a node's edge; whether the search ends there. */
        private boolean take(int node, int edge) {
            markReached(group[node], edge);
            int goal = program.to[edge];
            for (int g = 0; g < groups.groupCount; g++) {
                if (reached[g] == 0 || known[goal * space.states + g] != 0) {
                    continue;
                }
                if (count >= MOST_NODES) {
                    outOfRoom = true;
                    return true;
                }
                addNode(goal, g, node, edge);
                if (goal == ERROR_LOCATION) {
                    tracePath(count - 1);
                    return true;
                }
            }
            return false;
        }

        private void markReached(int source, int edge) {
            Arrays.fill(reached, 0, groups.groupCount, (byte) 0);
            int choices = program.choices(edge);
            for (int i = groups.start[source]; i < groups.start[source + 1]; i++) {
                for (int input = 0; input < choices; input++) {
                    int goal = program.step(edge, groups.member[i], input);
                    if (goal >= 0) {
                        reached[groups.groupOf[goal]] = 1;
                    }
                }
            }
        }

        private void addNode(int newLocation, int newGroup, int from, int edge) {
            location[count] = newLocation;
            group[count] = newGroup;
            signature[count] = groups.signatureOf(newGroup);
            parent[count] = from;
            byEdge[count] = edge;
            depth[count] = from < 0 ? 0 : depth[from] + 1;
            known[newLocation * space.states + newGroup] = 1;
            count++;
        }

        private void tracePath(int last) {
            pathLength = depth[last];
            int node = last;
            for (int k = pathLength - 1; k >= 0; k--) {
                pathEdge[k] = byEdge[node];
                node = parent[node];
            }
        }
    }

    /** Tries whether a run can take the path of the search, and with which inputs. */
    private static final class Replay {
        private final Space space;
        private final Program program;
        private final Search search;
        /** Row k has a bit for each state from which the path's edges k, k + 1, .. can be taken. */
        private final long[][] open;
        final int[] inputs = new int[MOST_NODES];
        int inputCount = 0;

        Replay(Space space, Program program, Search search) {
            this.space = space;
            this.program = program;
            this.search = search;
            open = new long[MOST_NODES][(space.states + 63) / 64];
        }

        void forget() {
            inputCount = 0;
        }

        /** Whether the path is true; the inputs are collected then. */
        boolean succeeds() {
            Arrays.fill(open[search.pathLength], -1L);
            for (int k = search.pathLength - 1; k >= 0; k--) {
                openBefore(k);
            }
            if (!isOpen(0, 0)) {
                return false;
            }
            collectInputs();
            return true;
        }

        private boolean isOpen(int k, int state) {
            return (open[k][state >> 6] >>> (state & 63) & 1L) != 0;
        }

        private void openBefore(int k) {
            Arrays.fill(open[k], 0L);
            for (int state = 0; state < space.states; state++) {
                if (leastInput(k, state) >= 0) {
                    open[k][state >> 6] |= 1L << (state & 63);
                }
            }
        }

        /** The least input at the k-th edge behind which the rest can be taken (0 if it needs none); or -1. */
        private int leastInput(int k, int state) {
            int edge = search.pathEdge[k];
            int choices = program.choices(edge);
            for (int input = 0; input < choices; input++) {
                int goal = program.step(edge, state, input);
                if (goal >= 0 && isOpen(k + 1, goal)) {
                    return input;
                }
            }
            return -1;
        }

        private void collectInputs() {
            int state = 0;
            for (int k = 0; k < search.pathLength && state >= 0; k++) {
                int edge = search.pathEdge[k];
                int input = leastInput(k, state);
                if (program.kind[edge] == INPUT) {
                    inputs[inputCount] = input;
                    inputCount++;
                }
                state = program.step(edge, state, input);
            }
        }
    }

    /** Makes predicates of a path that is not true. */
    private static final class Refiner {
        private static final int SETS_IN_A_ROW = 64;

        private final Space space;
        private final Program program;
        private final Groups groups;
        private final Search search;
        /**
         * Set i that is taken along is bit i % 64 of the elements of row i / 64, one for each state: so
         * one step over the states moves 64 sets. A path has fewer than 200 edges: 4 rows are enough.
         */
        private final long[][] taken;
        private final long[] spare;
        private int takenCount = 0;

        Refiner(Space space, Program program, Groups groups, Search search) {
            this.space = space;
            this.program = program;
            this.groups = groups;
            this.search = search;
            taken = new long[(MOST_NODES + SETS_IN_A_ROW - 1) / SETS_IN_A_ROW][space.states];
            spare = new long[space.states];
        }

        /** False as soon as there is no room for a predicate. */
        boolean refine() {
            int before = groups.count;
            takenCount = 0;
            for (int k = search.pathLength - 1; k >= 0; k--) {
                passEdge(search.pathEdge[k]);
                if (!adoptTaken()) {
                    return false;
                }
            }
            return groups.count > before || adoptVariableBit();
        }

        private int rowsInUse() {
            return (takenCount + SETS_IN_A_ROW - 1) / SETS_IN_A_ROW;
        }

        private void passEdge(int edge) {
            int kind = program.kind[edge];
            if (kind == TEST) {
                takeAlong(program.target[edge]);
                return;
            }
            for (int i = 0; i < rowsInUse(); i++) {
                if (kind == ASSIGNMENT) {
                    pullBack(taken[i], program.target[edge]);
                } else {
                    leaveBehind(taken[i], program.target[edge]);
                }
            }
        }

        private void takeAlong(int[] target) {
            long[] row = taken[takenCount / SETS_IN_A_ROW];
            int bit = takenCount % SETS_IN_A_ROW;
            if (bit == 0) {
                Arrays.fill(row, 0L);
            }
            for (int state = 0; state < space.states; state++) {
                if (target[state] >= 0) {
                    row[state] |= 1L << bit;
                }
            }
            takenCount++;
        }

        private void pullBack(long[] row, int[] target) {
            for (int state = 0; state < space.states; state++) {
                spare[state] = row[target[state]];
            }
            System.arraycopy(spare, 0, row, 0, space.states);
        }

        /** A set that is left behind becomes the empty one, which never splits again. */
        private void leaveBehind(long[] row, int[] target) {
            long different = 0;
            for (int state = 0; state < space.states; state++) {
                different |= row[state] ^ row[target[state]];
            }
            for (int state = 0; state < space.states; state++) {
                row[state] &= ~different;
            }
        }

        private boolean adoptTaken() {
            for (int i = 0; i < rowsInUse(); i++) {
                long bits = groups.splitting(taken[i]);
                for (int bit = 0; bit < SETS_IN_A_ROW && bits != 0; bit++) {
                    if ((bits >>> bit & 1L) == 0) {
                        continue;
                    }
                    if (groups.isFull()) {
                        return false;
                    }
                    adopt(taken[i], bit);
                    // a new predicate can be all that a later set was needed for
                    bits = groups.splitting(taken[i]);
                }
            }
            return true;
        }

        private void adopt(long[] row, int bit) {
            for (int state = 0; state < space.states; state++) {
                if ((row[state] >>> bit & 1L) != 0) {
                    groups.include(state);
                }
            }
            groups.endPredicate();
        }

        /** The bits of x, then y, then z are the bits of the state's number, the lowest first. */
        private boolean adoptVariableBit() {
            for (int state = 0; state < space.states; state++) {
                spare[state] = state;
            }
            long bits = groups.splitting(spare);
            for (int bit = 0; bit < VARIABLES * space.width; bit++) {
                if ((bits >>> bit & 1L) != 0) {
                    if (groups.isFull()) {
                        return false;
                    }
                    adopt(spare, bit);
                    return true;
                }
            }
            return true;
        }
    }
}
