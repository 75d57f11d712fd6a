/** The document's section "Terms", sentence by sentence, up to what an edge is. */
public final class TermsTest extends Bench {
    private void variablesHaveWidthBits() {
        sentence("Terms: x, y, z are numbers of WIDTH bits (1 to 3)");
        for (int w = WIDTH_1; w <= WIDTH_3; w++) {
            PredicateProver p = program(w, "AC x?", "AC y?", "AC z?");
            int top = (2 << w) - 1;
            for (int v = 0; v < 3; v++) {
                int one = (int) Math.pow(top + 1, v);
                check.due("the largest number of variable " + v, p.follow(v, 0, top), top * one);
                check.due("one more than that", p.follow(v, 0, top + 1), 0);
                check.due("one less than 0", p.follow(v, 0, -1), top * one);
            }
        }
    }

    private void arithmeticWrapsAround() {
        sentence("Terms: all arithmetic is modulo 2 to the power of WIDTH");
        for (int w = WIDTH_1; w <= WIDTH_3; w++) {
            PredicateProver p = program(w, "AC z:x+y", "AC z:x-y", "AC z:x*y", "AC z:x&y", "AC z:x^y");
            int numbers = 2 << w;
            for (int x = 0; x < numbers; x++) {
                for (int y = 0; y < numbers; y++) {
                    int state = x + y * numbers;
                    int[] want = {x + y, x - y, x * y, x & y, x ^ y};
                    for (int e = 0; e < want.length; e++) {
                        int due = state + Math.floorMod(want[e], numbers) * numbers * numbers;
                        check.due("follow(" + e + ", " + state + ", 0)", p.follow(e, state, 0), due);
                    }
                }
            }
        }
        dueValue(WIDTH_3, "7+1", 0);
        dueValue(WIDTH_3, "0-1", 7);
        dueValue(WIDTH_3, "4*2", 0);
        dueValue(WIDTH_2, "3+1", 0);
        dueValue(WIDTH_2, "0-1", 3);
        dueValue(WIDTH_2, "3*3", 1);
        dueValue(WIDTH_1, "1+1", 0);
        dueValue(WIDTH_1, "0-1", 1);
    }

    /** The wrap-around comes before the comparison, not behind it. */
    private void atomsCompareWrappedNumbers() {
        sentence("Terms: all arithmetic is modulo 2 to the power of WIDTH (in atoms)");
        dueHolds(WIDTH_3, "7+1=0", true);
        dueHolds(WIDTH_3, "7+1<1", true);
        dueHolds(WIDTH_3, "7<7+1", false);
        dueHolds(WIDTH_3, "0-1#7", false);
        dueHolds(WIDTH_2, "3+1=0", true);
        dueHolds(WIDTH_2, "2*2<1", true);
        dueHolds(WIDTH_1, "1+1=0", true);
        dueHolds(WIDTH_1, "0-1=1", true);
    }

    private void digitsWrapAround() {
        sentence("Terms: all arithmetic is modulo 2 to the power of WIDTH (a digit that is too large for it)");
        for (int digit = 0; digit < 8; digit++) {
            dueValue(WIDTH_3, String.valueOf(digit), digit);
            dueValue(WIDTH_2, String.valueOf(digit), digit % 4);
            dueValue(WIDTH_1, String.valueOf(digit), digit % 2);
        }
        dueHolds(WIDTH_2, "3<4", false);
        dueHolds(WIDTH_2, "4=0", true);
        dueHolds(WIDTH_1, "0<2", false);
        dueHolds(WIDTH_1, "7#1", false);
    }

    private void statesAreNumbers() {
        sentence("Terms: a STATE is x, plus y times 2 to the power of WIDTH, plus z times 4 to the power of WIDTH");
        for (int w = WIDTH_1; w <= WIDTH_3; w++) {
            PredicateProver p = program(w, "AC x:1", "AC y:1", "AC z:1", "AC x=1", "AC y=1", "AC z=1");
            int[] one = {1, 2 << w, 4 << 2 * w};
            for (int v = 0; v < 3; v++) {
                check.due("variable " + v + " is 1", p.follow(v, 0, 0), one[v]);
                for (int u = 0; u < 3; u++) {
                    check.due("whether variable " + v + " is 1 in " + one[u], p.follow(3 + v, one[u], 0), u == v ? one[u] : -1);
                }
            }
            check.due("the last state", p.signature(states(w) - 1), 0);
            check.due("it has the largest z", p.follow(2, states(w) - 1, 0), states(w) - 1 - ((2 << w) - 2) * one[2]);
        }
    }

    private void locationsAreAToL() {
        sentence("Terms: there are LOCATIONS A to L (0 to 11)");
        for (char c = 32; c < 127; c++) {
            boolean is = c >= 'A' && c <= 'L';
            dueEdge(c + "A x?", is);
            dueEdge("A" + c + " x?", is);
        }
        PredicateProver p = program(WIDTH_1, "AC x=x", "CD x=x", "DE x=x", "EF x=x", "FG x=x", "GH x=x", "HI x=x", "IJ x=x", "JK x=x", "KL x=x", "LB x=x");
        check.due("prove(1)", p.prove(1), UNSAFE);
        check.due("nodes()", p.nodes(), 12);
        for (int i = 1; i < 11; i++) {
            dueNode(p, i, i + 1, 0, i - 1, i - 1);
        }
        dueNode(p, 11, 1, 0, 10, 10);
    }

    private void runsBeginAtAInStateZero() {
        sentence("Terms: a run begins at A in state 0");
        check.due("no way from A", program(WIDTH_1, "CB x=x", "DB x=x", "LB x=x").prove(40), SAFE);
        check.due("x, y and z are 0", program(WIDTH_3, "AC x=0", "CD y=0", "DB z=0").prove(1), UNSAFE);
        check.due("x is not 1", program(WIDTH_3, "AB x=1").prove(40), SAFE);
        check.due("y is not 1", program(WIDTH_3, "AB y=1").prove(40), SAFE);
        check.due("z is not 1", program(WIDTH_3, "AB z=1").prove(40), SAFE);
        sentence("Terms: B is the ERROR");
        for (char c = 'A'; c <= 'L'; c++) {
            check.due("a way to " + c, program(WIDTH_1, "A" + c + " x=x").prove(1), c == 'B' ? UNSAFE : SAFE);
        }
    }

    private void linesHaveCharacters32To126() {
        sentence("Terms: THE LINE is a row of characters 32 .. 126");
        for (int c = 0; c < 400; c++) {
            PredicateProver p = new PredicateProver(WIDTH_1);
            boolean is = c >= 32 && c <= 126;
            check.due("type(" + c + ")", p.type((char) c), is ? 1 : -1);
            check.due("the next one after " + c, p.type('x'), is ? 2 : 1);
        }
        check.due("type(65535)", new PredicateProver(WIDTH_1).type((char) 65535), -1);
        check.due("type(256 + 65)", new PredicateProver(WIDTH_1).type((char) (256 + 65)), -1);
    }

    private void linesHaveAtMost24Characters() {
        sentence("Terms: THE LINE is a row of at most 24 characters");
        PredicateProver p = typed(new PredicateProver(WIDTH_3), "AC x:y+0+0+0+0+0+0+0+0+1");
        check.due("the 25th character", p.type('+'), -1);
        check.due("the 26th character", p.type('1'), -1);
        check.due("edge() of 24 characters", answer(p::edge), 0);
        check.due("the 24th is read, the 25th is not there", p.follow(0, 0, 0), 1);
        typed(p, "AC ((((x))))<((((0+0+0))))");
        check.dueThrow("edge() of an edge of 26 characters", ARGUMENT, p::edge);
        p.wipe();
        typed(p, "AC x+0+0+0+0+0+0+0+0=0*7");
        check.due("edge() of 24 characters with an atom", answer(p::edge), 1);
        check.due("its 24th is read", p.follow(1, 1, 0), -1);
        check.due("its 24th is read as 7", p.follow(1, 0, 0), 0);
        typed(p, "x+0+0+0+0+0+0+0+0+0+0=37");
        check.dueThrow("predicate() of 24 characters, the last one too many", ARGUMENT, p::predicate);
        p.wipe();
        typed(p, "x+0+0+0+0+0+0+0+0+0+0=3");
        check.due("predicate() of 23 characters", answer(p::predicate), 0);
        check.due("its 23rd is read", p.holds(0, 3) ? 1 : 0, 1);
    }

    private void termsArePartsInARow() {
        sentence("Terms: a TERM is a PART, or several with one of + - * & ^ between each two");
        for (String right : new String[] {"x", "5", "x+y", "x-1", "x*2&z^3", "1+2-3*4&5^6", "(x)", "(x)+(y)"}) {
            dueTerm(right, true);
        }
        for (String wrong : new String[] {"", "xy", "12", "x1", "x+", "+x", "-1", "x++y", "x+-y", "x+y*", "x y", " x", "x ", "x + y", "^"}) {
            dueTerm(wrong, false);
        }
        for (char c = 32; c < 127; c++) {
            boolean comparison = c == '<' || c == '=' || c == '#';
            boolean operator = "+-*&^".indexOf(c) >= 0;
            dueEdge("AC x:y" + c + "z", operator);
            duePredicate("x" + c + "y", comparison);
            dueAtom("x" + c + "y<z", operator);
            dueAtom("x<y" + c + "z", operator);
        }
    }

    private void termsGoFromLeftToRight() {
        sentence("Terms: taken from left to right");
        dueValue(WIDTH_3, "1+2*3", 1);
        dueValue(WIDTH_3, "1+(2*3)", 7);
        dueValue(WIDTH_3, "7-2-3", 2);
        dueValue(WIDTH_3, "7-(2-3)", 0);
        dueValue(WIDTH_3, "1+1&3", 2);
        dueValue(WIDTH_3, "4^1+1&6", 6);
        dueValue(WIDTH_3, "6&3^1*3", 1);
        sentence("Terms: & and ^ bit by bit");
        dueValue(WIDTH_3, "6&3", 2);
        dueValue(WIDTH_3, "6^3", 5);
        dueValue(WIDTH_3, "7^7", 0);
        dueValue(WIDTH_3, "4&3", 0);
    }

    private void partsAreDigitsVariablesOrTerms() {
        sentence("Terms: a PART is a digit 0 to 7, x, y, z, or a term in ( and )");
        for (char c = 32; c < 127; c++) {
            boolean is = c >= '0' && c <= '7' || c >= 'x' && c <= 'z';
            dueTerm(String.valueOf(c), is);
            dueTerm("1+" + c, is);
            dueTerm("(" + c + ")", is);
        }
        for (String wrong : new String[] {"()", "(", ")", "(x", "x)", "(x))", "((x)", "(x)y", "x(y)", "(x)(y)", "(x+)", "(+x)", "(x=y)", ")x(", "[x]", "( x)"}) {
            dueTerm(wrong, false);
        }
        PredicateProver p = program(WIDTH_2, "AC x:x", "AC x:y", "AC x:z");
        check.due("x", p.follow(0, 1 + 2 * 4 + 3 * 16, 0), 1 + 2 * 4 + 3 * 16);
        check.due("y", p.follow(1, 1 + 2 * 4 + 3 * 16, 0), 2 + 2 * 4 + 3 * 16);
        check.due("z", p.follow(2, 1 + 2 * 4 + 3 * 16, 0), 3 + 2 * 4 + 3 * 16);
    }

    private void termsAreAtMost4Deep() {
        sentence("Terms: a term in ( and ), at most 4 deep");
        dueTerm("((((1))))", true);
        dueTerm("(((((1)))))", false);
        dueTerm("((((((1))))))", false);
        dueTerm("((((1+2))))", true);
        dueTerm("1+((((2))))", true);
        dueTerm("1+(((((2)))))", false);
        dueTerm("(1+(2+(3+(4))))", true);
        dueTerm("(1+(2+(3+(4+(5)))))", false);
        dueTerm("((((1))+(((2)))))", false);
        dueTerm("(((1))+(((2))))", true);
        sentence("Terms: at most 4 deep (what is closed does not count)");
        dueTerm("((((1))))+(2)", true);
        dueTerm("(((1)))+((((2))))", true);
        dueTerm("(1)+(2)+(3)+(4)+(5)", true);
        dueAtom("((((x))))<((((y))))", true);
        dueAtom("((((x))))<(((((y)))))", false);
        dueAtom("(((((x)))))<((((y))))", false);
        PredicateProver p = program(WIDTH_3, "AC x:((((1+2))))*2");
        check.due("the value of what is 4 deep", p.follow(0, 0, 0), 6);
        p.wipe();
        typed(p, "AC x:(((((1)))))");
        check.dueThrow("edge() of what is 5 deep", ARGUMENT, p::edge);
        p.wipe();
        check.due("what is refused leaves no depth", addEdge(p, "AC x:((((7))))"), 1);
        check.due("its value", p.follow(1, 0, 0), 7);
    }

    private void atomsAreTwoTerms() {
        sentence("Terms: an ATOM is two terms with <, = or # between");
        for (String right : new String[] {"x<y", "x=y", "x#y", "0=0", "x+y*z<7-(x^1)", "(x)#(y)"}) {
            dueAtom(right, true);
        }
        for (String wrong : new String[] {"", "x", "x+y", "<", "x<", "<x", "x<y<z", "x=y#z", "x==y", "x<=y", "x<#y", "x>y", "(x<y)", "x<y ", "x <y", "x!y"}) {
            dueAtom(wrong, false);
        }
        sentence("Terms: = or # (not equal)");
        dueHolds(WIDTH_3, "5=5", true);
        dueHolds(WIDTH_3, "5=4", false);
        dueHolds(WIDTH_3, "5#5", false);
        dueHolds(WIDTH_3, "5#4", true);
    }

    private void lessHasNoSigns() {
        sentence("Terms: < (less, without signs)");
        for (int w = WIDTH_1; w <= WIDTH_3; w++) {
            for (int left = 0; left < 2 << w; left++) {
                for (int right = 0; right < 2 << w; right++) {
                    dueHolds(w, left + "<" + right, left < right);
                }
            }
        }
        dueHolds(WIDTH_3, "0-1<0", false);
        dueHolds(WIDTH_3, "0<0-1", true);
    }

    private void edgesHaveOneBlank() {
        sentence("Terms: an EDGE is two locations (from where, to where), one blank, and an ACTION");
        for (String wrong : new String[] {
            "", "A", "AC", "AC ", "ACx?", "AC  x?", "AC   x=1", " AC x?", "A C x?", "A x?", " x?", "ACD x?", "AC x? ", "AC x:1 ", "AC x=1 ", "ac x?", "AC",
        }) {
            dueEdge(wrong, false);
        }
        for (char c = 33; c < 127; c++) {
            dueEdge("AC" + c + "x?", false);
        }
        PredicateProver p = program(WIDTH_1, "AD x=x", "DL x=x");
        p.prove(1);
        dueNode(p, 1, 3, 0, 0, 0);
        dueNode(p, 2, 11, 0, 1, 1);
        check.due("nodes()", p.nodes(), 3);
    }

    private void actionsAreOfThreeKinds() {
        sentence("Terms: an ACTION: a variable, a colon and a term");
        for (String right : new String[] {"x:1", "y:x", "z:((((1))))", "x:x"}) {
            dueEdge("AC " + right, true);
        }
        for (String wrong : new String[] {"x:", ":1", "1:x", "w:1", "x::1", "x: 1", "x :1", "x:1:1", "xy:1", "(x):1", "x+1:1", "x:y=z", "x:y<z", "x:?", "x:1?"}) {
            dueEdge("AC " + wrong, false);
        }
        sentence("Terms: an ACTION: a variable and ?");
        for (char c = 32; c < 127; c++) {
            dueEdge("AC " + c + "?", c >= 'x' && c <= 'z');
        }
        for (String wrong : new String[] {"?", "x??", "x?1", "x?=1", "x ?", "(x)?", "x+1?", "xy?", "?x"}) {
            dueEdge("AC " + wrong, false);
        }
        sentence("Terms: an ACTION: an atom (the edge can be taken where it holds)");
        PredicateProver p = program(WIDTH_1, "AC x<y", "AC 1=1", "AC 0=1");
        for (int s = 0; s < 8; s++) {
            check.due("x<y in " + s, p.follow(0, s, 0), s % 2 == 0 && s / 2 % 2 == 1 ? s : -1);
            check.due("1=1 in " + s, p.follow(1, s, 0), s);
            check.due("0=1 in " + s, p.follow(2, s, 0), -1);
        }
        sentence("Promise 5: IllegalArgumentException if it is none (an action that is no atom)");
        for (String wrong : new String[] {"x?", "x:1", "AC x=1", "AC x?"}) {
            duePredicate(wrong, false);
        }
    }

    public static void main(String[] args) {
        TermsTest test = new TermsTest();
        test.variablesHaveWidthBits();
        test.arithmeticWrapsAround();
        test.atomsCompareWrappedNumbers();
        test.digitsWrapAround();
        test.statesAreNumbers();
        test.locationsAreAToL();
        test.runsBeginAtAInStateZero();
        test.linesHaveCharacters32To126();
        test.linesHaveAtMost24Characters();
        test.termsArePartsInARow();
        test.termsGoFromLeftToRight();
        test.partsAreDigitsVariablesOrTerms();
        test.termsAreAtMost4Deep();
        test.atomsAreTwoTerms();
        test.lessHasNoSigns();
        test.edgesHaveOneBlank();
        test.actionsAreOfThreeKinds();
        test.check.end("TermsTest");
    }
}
