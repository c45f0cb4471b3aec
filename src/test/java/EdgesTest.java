/** Each sentence of the document that names a boundary case that is not refused as BAD. */
public final class EdgesTest extends Checks {
    public static void main(String[] args) {
        rows();
        parameters();
        freedRows();
        primitives();
        roots();
        loci();
        envelopes();
        places();
        meetings();
        end();
    }

    // ---- 1 ROWS

    private static void rows() {
        test("all 0 at first", EdgesTest::newObject);
        test("term: a coefficient -7 .. 7", EdgesTest::coefficientsAtTheEdge);
        test("term: of power i (0 .. 4)", EdgesTest::powersAtTheEdge);
        test("term: what it was", EdgesTest::whatItWas);
        test("clear of a row that is all 0", EdgesTest::clearOfNothing);
        test("clear: how many were not", EdgesTest::clearCounts);
        test("clear: all coefficients are 0 again", EdgesTest::clearErasesAll);
        test("N (0: all three are constant)", EdgesTest::constantRow);
        test("N, the greatest power in one of the three", EdgesTest::greatestPower);
    }

    private static void newObject() {
        EliminateLoci loci = new EliminateLoci();
        dueDegrees("new", loci, 0, 0);
        dueFreed("new", loci, of(), of(), of());
        dueNoCurve("new", loci, 0);
        dueNoCurve("new", loci, 1);
        dueRow("new", loci, of(), of(), of());
        EliminateLoci other = circle();
        due("another object's row", new EliminateLoci().clear(), 0);
        due("this one's", other.clear(), 5);
    }

    private static void coefficientsAtTheEdge() {
        EliminateLoci loci = new EliminateLoci();
        for (int v = -7; v <= 7; v++) {
            due("term(2, 4, " + v + ")", loci.term(2, 4, v), v == -7 ? 0 : v - 1);
            due("freed(2, 0) of " + v + " t^4", loci.freed(2, 0), v);
        }
    }

    private static void powersAtTheEdge() {
        EliminateLoci loci = new EliminateLoci();
        for (int which = 0; which < 3; which++) {
            due("power 0", loci.term(which, 0, which + 1), 0);
            due("power 4", loci.term(which, 4, -which - 1), 0);
        }
        dueRow("powers 0 and 4", loci, of(1, 0, 0, 0, -1), of(2, 0, 0, 0, -2), of(3, 0, 0, 0, -3));
        due("degree(0)", loci.degree(0), 4);
    }

    private static void whatItWas() {
        EliminateLoci loci = new EliminateLoci();
        due("first", loci.term(1, 3, 7), 0);
        due("second", loci.term(1, 3, -7), 7);
        due("the same", loci.term(1, 3, -7), -7);
        due("0", loci.term(1, 3, 0), -7);
        due("0 again", loci.term(1, 3, 0), 0);
        due("its neighbours", loci.term(1, 2, 0) + loci.term(1, 4, 0) + loci.term(0, 3, 0) + loci.term(2, 3, 0), 0);
    }

    private static void clearOfNothing() {
        EliminateLoci loci = new EliminateLoci();
        due("clear()", loci.clear(), 0);
        due("clear() again", loci.clear(), 0);
        dueDegrees("cleared", loci, 0, 0);
        due("term after it", loci.term(0, 0, 1), 0);
        due("clear() of one", loci.clear(), 1);
        due("clear() after that", loci.clear(), 0);
    }

    private static void clearCounts() {
        EliminateLoci loci = row(of(7, -7, 7, -7, 7), of(-1, 1, -1, 1, -1), of(1, 2, 3, 4, 5));
        due("clear() of a full row", loci.clear(), 15);
        set(loci, of(7, -7, 7, -7, 7), of(-1, 1, -1, 1, -1), of(1, 2, 3, 4, 5));
        loci.term(0, 4, 0);
        loci.term(2, 0, 0);
        due("clear() of all but two", loci.clear(), 13);
        for (int which = 0; which < 3; which++) {
            for (int i = 0; i <= 4; i++) {
                loci.term(which, i, -1);
                due("clear() of " + which + ", " + i, loci.clear(), 1);
            }
        }
    }

    private static void clearErasesAll() {
        EliminateLoci loci = row(of(7, -7, 7, -7, 7), of(-1, 1, -1, 1, -1), of(1, 2, 3, 4, 5));
        loci.trace(0);
        loci.trace(1);
        loci.clear();
        dueDegrees("cleared", loci, 0, 0);
        dueFreed("cleared", loci, of(), of(), of());
        dueValues("cleared", loci, 1, 1, 0, 0, 0);
        dueNoCurve("cleared", loci, 0);
        dueNoCurve("cleared", loci, 1);
        dueRow("cleared", loci, of(), of(), of());
    }

    private static void constantRow() {
        dueDegrees("constants", row(of(1), of(-7), of(7)), 0, 0);
        dueDegrees("one constant", row(of(), of(3), of()), 0, 0);
        dueDegrees("all 0", new EliminateLoci(), 0, 0);
        // no power of u or v is left in them, not even of 0
        dueValues("constants", row(of(1), of(-7), of(7)), 9, 0, 1, -7, 7);
        dueValues("constants", row(of(1), of(-7), of(7)), 0, -9, 1, -7, 7);
    }

    private static void greatestPower() {
        for (int which = 0; which < 3; which++) {
            EliminateLoci loci = row(of(1), of(1), of(1));
            for (int i = 1; i <= 4; i++) {
                loci.term(which, i, -1);
                due("degree(0) with power " + i + " in " + which, loci.degree(0), i);
            }
            for (int i = 4; i >= 1; i--) {
                loci.term(which, i, 0);
                due("degree(0) without power " + i + " in " + which, loci.degree(0), i - 1);
            }
        }
    }

    // ---- PARAMETERS and VALUES

    private static void parameters() {
        test("A PARAMETER is a pair u, v (-9 .. 9 both)", EdgesTest::parametersAtTheEdge);
        test("not both 0: one of them may be", EdgesTest::oneOfBothIsZero);
        test("for what is beyond all t, if v is 0", EdgesTest::beyondAllT);
        test("VALUES: u to the power of i, v to that of N - i", EdgesTest::valuesByN);
        test("value: divided by the greatest common divisor", EdgesTest::valuesDivided);
        test("value: (0, if all are 0)", EdgesTest::valuesAllZero);
        test("value: of THE ROW", EdgesTest::valuesOfTheRowAsItIs);
    }

    private static void parametersAtTheEdge() {
        EliminateLoci loci = row(of(0, 1), of(1), of(1, 0, 1));
        dueValues("9 / 8", loci, 9, 8, 72, 64, 145);
        dueValues("-9 / 8", loci, -9, 8, -72, 64, 145);
        dueValues("8 / 9", loci, 8, 9, 72, 81, 145);
        dueValues("8 / -9", loci, 8, -9, -72, 81, 145);
        dueValues("-9 / -9", loci, -9, -9, 1, 1, 2);
        for (int n = -9; n <= 9; n += 18) {
            due("follows(" + n + ", 1)", loci.follows(n, 1), 1);
            due("follows(1, " + n + ")", loci.follows(1, n), 1);
            due("touches(" + n + ", 1)", circle().touches(n, 1), 1);
            due("touches(1, " + n + ")", circle().touches(1, n), 1);
            due("at(" + n + ", " + n + ", ..)", loci.at(n, n, 1, 1, 2), 1);
            due("at(" + n + ", " + -n + ", ..)", loci.at(n, -n, -1, 1, 2), 1);
        }
    }

    private static void oneOfBothIsZero() {
        EliminateLoci loci = circle();
        dueValues("0 / 9", loci, 0, 9, 1, 0, 1);
        dueValues("0 / -1", loci, 0, -1, 1, 0, 1);
        dueValues("9 / 0", loci, 9, 0, -1, 0, 1);
        due("at(0, 1, ..)", loci.at(0, 1, 1, 0, 1), 1);
        due("at(0, -9, ..)", loci.at(0, -9, 1, 0, 1), 1);
        due("follows(0, 9)", loci.follows(0, 9), 1);
        due("touches(0, 9)", loci.touches(0, 9), 1);
    }

    private static void beyondAllT() {
        EliminateLoci loci = row(of(5, 1, 4), of(7, 7, -6), of(1, 1, 2));
        for (int u : new int[] {-9, -1, 1, 9}) {
            dueValues("beyond", loci, u, 0, 2, -3, 1);
            due("at(" + u + ", 0, ..)", loci.at(u, 0, 2, -3, 1), 1);
            due("at(" + u + ", 0, elsewhere)", loci.at(u, 0, 5, 7, 1), 0);
            due("follows(" + u + ", 0)", loci.follows(u, 0), 1);
            due("touches(" + u + ", 0)", loci.touches(u, 0), 1);
        }
        // of odd degree, the sign of u shows
        dueValues("odd", row(of(1, 2), of(1, 4), of(1, 6)), -3, 0, -1, -2, -3);
        due("W is 0 beyond", hyperbola().at(1, 0, 0, 0, 1), 0);
    }

    private static void valuesByN() {
        // N is W's 3, which X and Y have no term of
        EliminateLoci loci = row(of(1), of(0, 1), of(0, 0, 0, 1));
        dueValues("3 / 2", loci, 3, 2, 8, 12, 27);
        dueValues("-3 / -2", loci, -3, -2, -8, -12, -27);
        loci.term(2, 4, 1);
        dueValues("3 / 2, N is 4", loci, 3, 2, 16, 24, 3 * 27 + 2 * 27);
        dueValues("3 / -2, N is 4", loci, 3, -2, 16, -24, 81 - 54);
        loci.term(2, 4, 0);
        loci.term(2, 3, 0);
        dueValues("3 / 2, N is 1", loci, 3, 2, 2, 3, 0);
    }

    private static void valuesDivided() {
        EliminateLoci loci = row(of(6), of(-4), of(2));
        dueValues("by 2", loci, 1, 1, 3, -2, 1);
        dueValues("one that is not 0", row(of(), of(-7), of()), 1, 1, 0, -1, 0);
        dueValues("two that are not 0", row(of(4), of(), of(-6)), 1, 1, 2, 0, -3);
        dueValues("powers of u and v", row(of(0, 1), of(0, 2), of(0, 3)), 6, 6, 1, 2, 3);
    }

    private static void valuesAllZero() {
        dueValues("all 0", new EliminateLoci(), 1, 0, 0, 0, 0);
        // zeros that all three have
        dueValues("at 1", row(of(-1, 1), of(0, -1, 1), of(-2, 2)), 9, 9, 0, 0, 0);
        dueValues("at 3 / 2", row(of(-3, 2), of(6, -4), of(0, -3, 2)), 3, 2, 0, 0, 0);
        dueValues("at 0", row(of(0, 1), of(0, 0, 5), of(0, 0, 0, 7)), 0, 1, 0, 0, 0);
    }

    private static void valuesOfTheRowAsItIs() {
        // t - 1 in common: at 0 it is -1, which a freed row would not have
        dueValues("common divisor below 0", row(of(-1, 1), of(0, -1, 1), of(-2, 2)), 0, 1, -1, 0, -2);
        dueValues("common divisor above 0", row(of(-1, 1), of(0, -1, 1), of(-2, 2)), 2, 1, 1, 2, 2);
    }

    // ---- FREED

    private static void freedRows() {
        test("if all three have a polynomial in common: not two", EdgesTest::twoShare);
        test("of degree 1 or more: not a number alone", EdgesTest::numbersShared);
        test("a polynomial that is 0 has all divisors", EdgesTest::zerosShareAll);
        test("all three 0: none is the greatest", EdgesTest::allZeroFreed);
        test("the greatest such one", EdgesTest::greatestDivisor);
        test("(with coefficients of which 1 is the greatest common divisor", EdgesTest::divisorIsPrimitive);
        test("and the highest above 0)", EdgesTest::divisorIsAboveZero);
        test("n is the greatest power that the FREED row has", EdgesTest::freedDegree);
        test("freed: of power i, 0 .. 4", EdgesTest::freedBeyondItsDegree);
        test("FREED is of THE ROW in hand, whatever it was before", EdgesTest::freedInTurn);
    }

    private static void twoShare() {
        dueFreed("X, Y", row(of(-1, 1), of(1, -2, 1), of(1, 1)), of(-1, 1), of(1, -2, 1), of(1, 1));
        dueFreed("X, W", row(of(0, 1), of(1, 1), of(0, 0, 1)), of(0, 1), of(1, 1), of(0, 0, 1));
        dueFreed("Y, W", row(of(5), of(1, 1), of(-1, 0, 1)), of(5), of(1, 1), of(-1, 0, 1));
        // each two have one in common, all three have none: t (t - 1), t (t + 1), t^2 - 1
        dueFreed("pairs", row(of(0, -1, 1), of(0, 1, 1), of(-1, 0, 1)), of(0, -1, 1), of(0, 1, 1), of(-1, 0, 1));
        dueDegrees("pairs", row(of(0, -1, 1), of(0, 1, 1), of(-1, 0, 1)), 2, 2);
    }

    private static void numbersShared() {
        dueFreed("2", row(of(2, 4), of(0, 6), of(2)), of(2, 4), of(0, 6), of(2));
        dueFreed("7", row(of(7), of(-7), of(7)), of(7), of(-7), of(7));
        dueFreed("7 alone", row(of(-7), of(), of()), of(-7), of(), of());
    }

    private static void zerosShareAll() {
        dueFreed("X alone", row(of(0, 2, 4), of(), of()), of(2), of(), of());
        dueFreed("Y alone", row(of(), of(3, 0, 0, 0, -6), of()), of(), of(-3), of());
        dueFreed("W alone", row(of(), of(), of(0, -1)), of(), of(), of(-1));
        dueFreed("Y is 0", row(of(-1, 0, 1), of(), of(2, -4, 2)), of(1, 1), of(), of(-2, 2));
        dueFreed("X is 0", row(of(), of(0, 1), of(1)), of(), of(0, 1), of(1));
    }

    private static void allZeroFreed() {
        dueFreed("all 0", new EliminateLoci(), of(), of(), of());
        dueDegrees("all 0", new EliminateLoci(), 0, 0);
    }

    private static void greatestDivisor() {
        // t (t + 1)^2 and others with t + 1: (t + 1)^2 is greater than t + 1
        dueFreed("(t + 1)^2", row(of(0, 1, 2, 1), of(1, 2, 1), of(-1, -1, 1, 1)), of(0, 1), of(1), of(-1, 1));
        dueFreed("t^3", row(of(0, 0, 0, 2), of(0, 0, 0, 0, 3), of(0, 0, 0, 5)), of(2), of(0, 3), of(5));
        // t^2 + 1 has no zero that is real
        dueFreed("t^2 + 1", row(of(1, 0, 1), of(0, 1, 0, 1), of(1, 0, 2, 0, 1)), of(1), of(0, 1), of(1, 0, 1));
    }

    private static void divisorIsPrimitive() {
        dueFreed("2 t and its like", row(of(0, 2), of(0, 4), of(0, 6)), of(2), of(4), of(6));
        dueFreed("3 t + 6", row(of(6, 3), of(0, 6, 3), of(4, 2)), of(3), of(0, 3), of(2));
        dueFreed("2 t + 3, which is one", row(of(6, 4), of(0, 3, 2), of(-3, -2)), of(2), of(0, 1), of(-1));
    }

    private static void divisorIsAboveZero() {
        dueFreed("-t", row(of(0, -1), of(), of(0, -2)), of(-1), of(), of(-2));
        dueFreed("1 - t", row(of(1, -1), of(2, -2), of(0, 1, -1)), of(-1), of(-2), of(0, -1));
        dueFreed("-t^4", row(of(), of(), of(0, 0, 0, 0, -6)), of(), of(), of(-6));
    }

    private static void freedDegree() {
        dueDegrees("none", circle(), 2, 2);
        dueDegrees("one", row(of(0, 1), of(0, 0, 1), of(0, 2)), 2, 1);
        dueDegrees("two", row(of(1, 0, 1), of(0, 1, 0, 1), of(1, 0, 2, 0, 1)), 4, 2);
        dueDegrees("three", row(of(0, 0, 0, 2), of(0, 0, 0, 0, 3), of(0, 0, 0, 5)), 4, 1);
        dueDegrees("four", row(of(1, 1, 1, 1, 1), of(-1, -1, -1, -1, -1), of()), 4, 0);
    }

    private static void freedBeyondItsDegree() {
        EliminateLoci loci = row(of(0, 0, 0, 2), of(0, 0, 0, 0, 3), of(0, 0, 0, 5));
        due("freed(1, 1)", loci.freed(1, 1), 3);
        for (int which = 0; which < 3; which++) {
            for (int i = 2; i <= 4; i++) {
                due("freed(" + which + ", " + i + ")", loci.freed(which, i), 0);
            }
        }
    }

    private static void freedInTurn() {
        EliminateLoci loci = circle();
        for (int turn = 0; turn < 2; turn++) {
            set(loci, of(1, 0, -1), of(0, 2), of(1, 0, 1));
            dueFreed("nothing in common", loci, of(1, 0, -1), of(0, 2), of(1, 0, 1));
            set(loci, of(1, 0, 1), of(0, 1, 0, 1), of(1, 0, 2, 0, 1));
            dueFreed("t^2 + 1", loci, of(1), of(0, 1), of(1, 0, 1));
            dueCurve("t^2 + 1", loci, 0, 2, 1, 0, 2, 1, 1, 0, -1, 2, 0, 1);
            loci.clear();
            dueFreed("cleared", loci, of(), of(), of());
            set(loci, of(-1, 1), of(1, -1), of(0, -1, 1));
            dueFreed("t - 1", loci, of(1), of(-1), of(0, 1));
            set(loci, of(1, 1, 1, 1, 1), of(), of(2, 2, 2, 2, 2));
            dueFreed("all of it", loci, of(1), of(), of(2));
        }
    }

    // ---- 2 POLYNOMIALS

    private static void primitives() {
        test("PRIMITIVE: 1 is the greatest common divisor", EdgesTest::contentsGo);
        test("the first one above 0: the greater power together first", EdgesTest::firstByDegree);
        test("of like ones by the power of x, the greater first", EdgesTest::firstByX);
        test("coefficient: 0 if it has none such", EdgesTest::coefficientMissing);
        test("coefficient: i, j 0 .. 6", EdgesTest::coefficientsAtTheEdge6);
        test("coefficient: i + j above 6: 0", EdgesTest::coefficientAboveSix);
    }

    private static void contentsGo() {
        dueCurve("4 / 6", row(of(0, 2), of(4), of(6)), 0, 1, 1, 0, 1, 3, 0, 0, -2);
        dueCurve("7 all over", row(of(0, 7), of(0, 0, 7), of(7)), 0, 2, 1, 2, 0, 1, 0, 1, -1);
        // 3 x t^2 + 3 y: 36 x y
        dueCurve("36", row(of(0, 0, 3), of(3), of()), 1, 2, 1, 1, 1, 1);
    }

    private static void firstByDegree() {
        dueCurve("x^2 before y", parabola(), 0, 2, 1, 2, 0, 1, 0, 1, -1);
        // x = t^2, y = t
        dueCurve("y^2 before x", row(of(0, 0, 1), of(0, 1), of(1)), 0, 2, 1, 0, 2, 1, 1, 0, -1);
        // x = 1, y = t: x before the number
        dueCurve("x before 1", row(of(1), of(0, 1), of(1)), 0, 1, 1, 1, 0, 1, 0, 0, -1);
        dueCurve("y before 1", row(of(0, 1), of(1), of(1)), 0, 1, 1, 0, 1, 1, 0, 0, -1);
        // x t + y t^3 + 1
        dueCurve("x^3 y before y^2", row(of(0, 1), of(0, 0, 0, 1), of(1)), 1, 4, 1, 3, 1, 4, 0, 2, 27);
    }

    private static void firstByX() {
        dueCurve("x before y", row(of(0, 1), of(0, 1), of(1)), 0, 1, 1, 1, 0, 1, 0, 1, -1);
        // x = t + 1 / t, y = t: x y - y^2 = 1
        dueCurve("x y before y^2", row(of(1, 0, 1), of(0, 0, 1), of(0, 1)), 0, 2, 1, 1, 1, 1, 0, 2, -1, 0, 0, -1);
        // x = t, y = t + 1 / t: x y - x^2 = 1
        dueCurve("x^2 before x y", row(of(0, 0, 1), of(1, 0, 1), of(0, 1)), 0, 2, 1, 2, 0, 1, 1, 1, -1, 0, 0, 1);
    }

    private static void coefficientMissing() {
        EliminateLoci loci = circle();
        due("x y", loci.coefficient(0, 1, 1), 0);
        due("x", loci.coefficient(1, 1, 0), 0);
        due("x^3, above its degree", loci.coefficient(0, 3, 0), 0);
        due("y^6", loci.coefficient(1, 0, 6), 0);
    }

    private static void coefficientsAtTheEdge6() {
        // (1 - t^4) x + 2 t^2 y + 1 + t^4: (x^2 - 1) (x^2 + y^2 - 1)^2
        EliminateLoci byX = row(of(1, 0, 0, 0, -1), of(0, 0, 2), of(1, 0, 0, 0, 1));
        due("x^6", byX.coefficient(1, 6, 0), 1);
        due("the number alone", byX.coefficient(1, 0, 0), -1);
        EliminateLoci byY = row(of(0, 0, 2), of(1, 0, 0, 0, -1), of(1, 0, 0, 0, 1));
        due("y^6", byY.coefficient(1, 0, 6), 1);
        due("x^2 y^4", byY.coefficient(1, 2, 4), 2);
    }

    private static void coefficientAboveSix() {
        EliminateLoci loci = row(of(1, 0, 0, 0, -1), of(0, 0, 2), of(1, 0, 0, 0, 1));
        for (int sort = 0; sort < 2; sort++) {
            for (int i = 0; i <= 6; i++) {
                for (int j = 7 - i; j <= 6; j++) {
                    due("coefficient(" + sort + ", " + i + ", " + j + ")", loci.coefficient(sort, i, j), 0);
                }
            }
        }
    }

    private static void roots() {
        test("THE ROOT: the greatest k, of a locus 1 .. 4", EdgesTest::rootsOfLoci);
        test("THE ROOT: the greatest k, of an envelope up to 6", EdgesTest::rootsOfEnvelopes);
        test("E is PRIMITIVE, the first one above 0", EdgesTest::rootsAreAboveZero);
        test("a product that is no power is told once", EdgesTest::productsAreNoPowers);
    }

    private static void rootsOfLoci() {
        for (int k = 1; k <= 4; k++) {
            EliminateLoci loci = row(of(), of(3), of(2));
            loci.term(0, k, 1);
            dueCurve("2 y - 3, " + k + " times", loci, 0, 1, k, 0, 1, 2, 0, 0, -3);
        }
        dueCurve("the circle twice", row(of(1, 0, 0, 0, -1), of(0, 0, 2), of(1, 0, 0, 0, 1)), 0, 2, 2,
                2, 0, 1, 0, 2, 1, 0, 0, -1);
        dueCurve("the circle once", circle(), 0, 2, 1, 2, 0, 1, 0, 2, 1, 0, 0, -1);
    }

    private static void rootsOfEnvelopes() {
        // x + t^2: -4 x
        dueCurve("1", row(of(1), of(), of(0, 0, 1)), 1, 1, 1, 1, 0, 1);
        // x t^3 + 1: -27 x^2
        dueCurve("2", row(of(0, 0, 0, 1), of(), of(1)), 1, 1, 2, 1, 0, 1);
        // t^4 + x: 256 x^3
        dueCurve("3", row(of(1), of(), of(0, 0, 0, 0, 1)), 1, 1, 3, 1, 0, 1);
        // t^4 + x t: -27 x^4
        dueCurve("4", row(of(0, 1), of(), of(0, 0, 0, 0, 1)), 1, 1, 4, 1, 0, 1);
        // x (t^4 + 1): 256 x^6
        dueCurve("6", row(of(1, 0, 0, 0, 1), of(), of()), 1, 1, 6, 1, 0, 1);
        // x t^4 + y: 256 x^3 y^3
        dueCurve("3 of a degree 2", row(of(0, 0, 0, 0, 1), of(1), of()), 1, 2, 3, 1, 1, 1);
        // x (t^4 + 1) + y t^2: 16 x^2 (y^2 - 4 x^2)^2
        dueCurve("2 of a degree 3", row(of(1, 0, 0, 0, 1), of(0, 0, 1), of()), 1, 3, 2, 3, 0, 4, 1, 2, -1);
    }

    private static void rootsAreAboveZero() {
        // both -x - y + 1 and x + y - 1 have this square, and this fourth power
        dueCurve("square", row(of(1, 0, -1), of(0, 0, 1), of(1)), 0, 1, 2, 1, 0, 1, 0, 1, 1, 0, 0, -1);
        dueCurve("fourth power", row(of(1, 0, 0, 0, -1), of(0, 0, 0, 0, 1), of(1)), 0, 1, 4,
                1, 0, 1, 0, 1, 1, 0, 0, -1);
        dueCurve("cube", row(of(1, 0, 0, -1), of(0, 0, 0, 1), of(1)), 0, 1, 3, 1, 0, 1, 0, 1, 1, 0, 0, -1);
    }

    private static void productsAreNoPowers() {
        // t (x + x t + y t^2): a square times what is none
        dueCurve("x^2 (x^2 - 4 x y)", row(of(0, 1, 1), of(0, 0, 0, 1), of()), 1, 4, 1, 4, 0, 1, 3, 1, -4);
        // x t^2 + y: x y
        dueCurve("x y", row(of(0, 0, 1), of(1), of()), 1, 2, 1, 1, 1, 1);
    }

    // ---- THE LOCUS

    private static void loci() {
        test("THE LOCUS: with n 1 or more", EdgesTest::locusOfOne);
        test("and W not 0; if W is 0 there is none", EdgesTest::locusWithoutW);
        test("or n is 0, there is none", EdgesTest::locusOfNoDegree);
        test("of degree n (perhaps with 0s ahead)", EdgesTest::locusWithZerosAhead);
        test("of the FREED row", EdgesTest::locusOfFreedRow);
        test("that beyond all t being told, too", EdgesTest::locusBeyond);
        test("and those that are not real", EdgesTest::locusNotReal);
        test("(E never is a constant.)", EdgesTest::locusIsNoConstant);
    }

    private static void locusOfOne() {
        dueCurve("n is 1", row(of(1, 2), of(3, 4), of(1)), 0, 1, 1, 1, 0, 2, 0, 1, -1, 0, 0, 1);
        dueCurve("W alone moves", row(of(1), of(2), of(0, 1)), 0, 1, 1, 1, 0, 2, 0, 1, -1);
        dueCurve("N is 4, n is 1", row(of(0, 0, 0, 2), of(0, 0, 0, 0, 3), of(0, 0, 0, 5)), 0, 1, 1,
                1, 0, 5, 0, 0, -2);
    }

    private static void locusWithoutW() {
        EliminateLoci loci = row(of(1, 2), of(3, 4, 5), of());
        dueNoCurve("W is 0", loci, 0);
        loci.term(2, 4, 1);
        due("W is t^4", loci.trace(0), 4);
        loci.term(2, 4, 0);
        dueNoCurve("W is 0 again", loci, 0);
        dueNoCurve("W and Y are 0", row(of(0, 1), of(), of()), 0);
    }

    private static void locusOfNoDegree() {
        dueNoCurve("constants", row(of(1), of(2), of(3)), 0);
        dueNoCurve("W alone, a constant", row(of(), of(), of(3)), 0);
        dueNoCurve("N is 2, n is 0", row(of(0, 0, 1), of(0, 0, 2), of(0, 0, 3)), 0);
        dueNoCurve("W alone", row(of(), of(), of(1, 2, 3, 4, 5)), 0);
        dueNoCurve("all 0", new EliminateLoci(), 0);
    }

    private static void locusWithZerosAhead() {
        dueCurve("x = t, y = t^3", row(of(0, 1), of(0, 0, 0, 1), of(1)), 0, 3, 1, 3, 0, 1, 0, 1, -1);
        dueCurve("x = t^4, y = t", row(of(0, 0, 0, 0, 1), of(0, 1), of(1)), 0, 4, 1, 0, 4, 1, 1, 0, -1);
        // x = 1 / t, y = t: x t - 1 has no t^2
        dueCurve("x = 1 / t, y = t", row(of(1), of(0, 0, 1), of(0, 1)), 0, 2, 1, 1, 1, 1, 0, 0, -1);
    }

    private static void locusOfFreedRow() {
        // the parabola by t and by t + 1: R of the row as it is would be 0 all over
        dueCurve("t", row(of(0, 0, 1), of(0, 0, 0, 1), of(0, 1)), 0, 2, 1, 2, 0, 1, 0, 1, -1);
        dueCurve("t + 1", row(of(0, 1, 1), of(0, 0, 1, 1), of(1, 1)), 0, 2, 1, 2, 0, 1, 0, 1, -1);
    }

    private static void locusBeyond() {
        // the circle's place (-1, 0) is that beyond all t alone
        dueSide("circle", circle(), 0, -1, 0, 1, 0);
        due("at", circle().at(1, 0, -1, 0, 1), 1);
        // x = 1 / t^2, y = 1 / t: (0, 0)
        dueSide("parabola from beyond", row(of(1), of(0, 1), of(0, 0, 1)), 0, 0, 0, 1, 0);
    }

    private static void locusNotReal() {
        // x = t^2 + 1, y = t^3 + t: (0, 0) is where t^2 = -1
        EliminateLoci lone = row(of(1, 0, 1), of(0, 1, 0, 1), of(1));
        dueCurve("x^3 - x^2 - y^2", lone, 0, 3, 1, 3, 0, 1, 2, 0, -1, 0, 2, -1);
        dueSide("a lone place", lone, 0, 0, 0, 1, 0);
        dueSide("beside it", lone, 0, 1, 0, 9, -1);
        // x = t^2, y = 0: left of (0, 0), too
        dueSide("half a line", row(of(0, 0, 1), of(), of(1)), 0, -20, 0, 1, 0);
    }

    private static void locusIsNoConstant() {
        int[][][] rows = {{{0, 1}, {}, {1}}, {{}, {0, 1}, {1}}, {{}, {1}, {0, 1}}, {{1}, {}, {0, 0, 1}},
            {{0, 0, 0, 1}, {1}, {0, 1}}, {{1}, {1}, {1, 0, 0, 0, 1}}};
        for (int[][] parts : rows) {
            EliminateLoci loci = row(parts[0], parts[1], parts[2]);
            due("trace of n = " + loci.degree(1), loci.trace(0) >= 1 ? 1 : 0, 1);
            due("times by trace is n or less", loci.trace(0) * loci.times(0) <= loci.degree(1) ? 1 : 0, 1);
        }
    }

    // ---- 3 THE ENVELOPE

    private static void envelopes() {
        test("THE ENVELOPE by THE ROW as it is", EdgesTest::envelopeOfTheRowAsItIs);
        test("with N 2 or more; there is none, if N is below 2", EdgesTest::envelopeBelowTwo);
        test("as one of degree N", EdgesTest::envelopeByN);
        test("or D is 0 all over", EdgesTest::envelopeZeroAllOver);
        test("or a constant", EdgesTest::envelopeConstant);
        test("W may be 0 all over", EdgesTest::envelopeWithoutW);
    }

    private static void envelopeOfTheRowAsItIs() {
        // t (x + y t): the freed row's N is below 2
        dueCurve("t in common", row(of(0, 1), of(0, 0, 1), of()), 1, 1, 2, 1, 0, 1);
        // (t - 1) (x t + y): the line at 1 is told as well, (x + y)^2
        dueCurve("t - 1 in common", row(of(0, -1, 1), of(-1, 1), of()), 1, 1, 2, 1, 0, 1, 0, 1, 1);
    }

    private static void envelopeBelowTwo() {
        dueNoCurve("all 0", new EliminateLoci(), 1);
        dueNoCurve("N is 0", row(of(1), of(2), of(3)), 1);
        EliminateLoci loci = row(of(1, 2), of(3, 4), of(5, 6));
        dueNoCurve("N is 1", loci, 1);
        loci.term(2, 2, 1);
        due("N is 2", loci.trace(1), 2);
        loci.term(2, 2, 0);
        dueNoCurve("N is 1 again", loci, 1);
    }

    private static void envelopeByN() {
        // x t^3 + t + y: where x is 0, a double zero is beyond all t, which the factor x tells
        dueCurve("double beyond", row(of(0, 0, 0, 1), of(1), of(0, 1)), 1, 4, 1, 2, 2, 27, 1, 0, 4);
        // x t^3 + y t^2 + 1
        dueCurve("degree 3", row(of(0, 0, 0, 1), of(0, 0, 1), of(1)), 1, 3, 1, 0, 3, 4, 2, 0, 27);
    }

    private static void envelopeZeroAllOver() {
        dueNoCurve("t^2", row(of(0, 0, 1), of(0, 0, 0, 1), of(0, 0, 2)), 1);
        dueNoCurve("t^2, N is 2", row(of(0, 0, 1), of(0, 0, -1), of(0, 0, 2)), 1);
        dueNoCurve("(t - 1)^2", row(of(1, -2, 1), of(2, -4, 2), of(0, 1, -2, 1)), 1);
        dueNoCurve("(t^2 + 1)^2", row(of(1, 0, 2, 0, 1), of(3, 0, 6, 0, 3), of()), 1);
        dueNoCurve("t^4", row(of(0, 0, 0, 0, 1), of(0, 0, 0, 0, 1), of(0, 0, 0, 0, 1)), 1);
    }

    private static void envelopeConstant() {
        for (int top = 2; top <= 4; top++) {
            EliminateLoci loci = row(of(), of(), of(1));
            loci.term(2, top, 1);
            dueNoCurve("t^" + top + " + 1", loci, 1);
        }
        // 1 - 4 x 0, though x is in it
        dueNoCurve("x t^2 + t", row(of(0, 0, 1), of(), of(0, 1)), 1);
        dueNoCurve("y t^2 - t", row(of(), of(0, 0, 1), of(0, -1)), 1);
    }

    private static void envelopeWithoutW() {
        // x t^2 + y t + x: y^2 - 4 x^2
        dueCurve("W is 0", row(of(1, 0, 1), of(0, 1), of()), 1, 2, 1, 2, 0, 4, 0, 2, -1);
        dueNoCurve("and no locus", row(of(1, 0, 1), of(0, 1), of()), 0);
    }

    // ---- places

    private static void places() {
        test("side: below 0 (-1), 0 (0), above 0 (1)", EdgesTest::threeSides);
        test("side: p, q -20 .. 20, s 1 .. 9", EdgesTest::placesAtTheEdge);
        test("side: at the place (p / s, q / s)", EdgesTest::sidesByShare);
        test("at: p, q -20 .. 20, s 1 .. 9", EdgesTest::atTheEdge);
        test("at: (0 also where its W is 0)", EdgesTest::atWhereWIsZero);
        test("at: both numbers of the place", EdgesTest::atBothNumbers);
    }

    private static void threeSides() {
        for (int sort = 0; sort < 2; sort++) {
            dueSide("inside", circle(), sort, 0, 0, 1, -1);
            dueSide("on", circle(), sort, 0, 1, 1, 0);
            dueSide("outside", circle(), sort, 1, 1, 1, 1);
        }
    }

    private static void placesAtTheEdge() {
        // x - y
        EliminateLoci loci = row(of(0, 1), of(0, 1), of(1));
        for (int s = 1; s <= 9; s++) {
            dueSide("x - y", loci, 0, 20, 20, s, 0);
            dueSide("x - y", loci, 0, -20, -20, s, 0);
            dueSide("x - y", loci, 0, 20, -20, s, 1);
            dueSide("x - y", loci, 0, -20, 20, s, -1);
            dueSide("x - y", loci, 0, 20, 19, s, 1);
            dueSide("x - y", loci, 0, -20, -19, s, -1);
        }
    }

    private static void sidesByShare() {
        // x^2 - y has terms of two degrees, x = 1 / 3 is y = 1 / 9
        EliminateLoci loci = parabola();
        dueSide("1 / 3", loci, 0, 3, 1, 9, 0);
        dueSide("above 1 / 3", loci, 0, 3, 2, 9, -1);
        dueSide("below 1 / 3", loci, 0, 3, 0, 9, 1);
        dueSide("2", loci, 0, 2, 4, 1, 0);
        dueSide("-2", loci, 0, -4, 8, 2, 0);
        dueSide("2 / 2", loci, 0, 2, 4, 2, -1);
        // its lines' x^2 - 4 y
        dueSide("2, 1", loci, 1, 2, 1, 1, 0);
        dueSide("2 / 3, 1 / 9", loci, 1, 6, 1, 9, 0);
        dueSide("2 / 3, 2 / 9", loci, 1, 6, 2, 9, -1);
    }

    private static void atTheEdge() {
        EliminateLoci loci = row(of(0, 5), of(0, -5), of(1));
        due("20, -20", loci.at(4, 1, 20, -20, 1), 1);
        due("-20, 20", loci.at(-4, 1, -20, 20, 1), 1);
        due("20 / 9, -20 / 9", loci.at(4, 9, 20, -20, 9), 1);
        due("-20 / 9, 20 / 9", loci.at(4, -9, -20, 20, 9), 1);
        due("20 / 9, 20 / 9", loci.at(4, 9, 20, 20, 9), 0);
        due("19 / 9, -20 / 9", loci.at(4, 9, 19, -20, 9), 0);
        due("20 / 8, -20 / 8", loci.at(4, 8, 20, -20, 8), 1);
        due("20 / 8, -20 / 8 at 4 / 9", loci.at(4, 9, 20, -20, 8), 0);
    }

    private static void atWhereWIsZero() {
        for (int p = -20; p <= 20; p += 20) {
            due("W is 0 at 0, Y is not", hyperbola().at(0, 1, p, 0, 1), 0);
            due("W is 0 beyond, X is not", hyperbola().at(1, 0, 0, p, 1), 0);
            due("all are 0 at 1", row(of(-1, 1), of(-2, 2), of(-1, 1)).at(1, 1, p, p, 1), 0);
            due("W is 0 all over", row(of(0, 1), of(0, 1), of()).at(0, 1, p, p, 9), 0);
            due("the row is 0", new EliminateLoci().at(1, 0, p, p, 1), 0);
        }
        // the place that the freed row has there
        due("(1, 2) at the common zero", row(of(-1, 1), of(-2, 2), of(-1, 1)).at(1, 1, 1, 2, 1), 0);
        due("(1, 2) elsewhere", row(of(-1, 1), of(-2, 2), of(-1, 1)).at(0, 1, 1, 2, 1), 1);
        // x and y are 0 where W is not
        due("X, Y are 0", row(of(0, 1), of(0, 1), of(1)).at(0, 1, 0, 0, 1), 1);
    }

    private static void atBothNumbers() {
        due("both", circle().at(1, 2, 3, 4, 5), 1);
        due("both below 0, W above", circle().at(-2, 1, -3, -4, 5), 1);
        due("x alone", circle().at(1, 2, 3, -4, 5), 0);
        due("y alone", circle().at(1, 2, -3, 4, 5), 0);
        due("W below 0", row(of(-3), of(-4), of(-5)).at(1, 1, 3, 4, 5), 1);
        due("constants", row(of(3), of(4), of(5)).at(0, -9, 3, 4, 5), 1);
    }

    // ---- follows, touches

    private static void meetings() {
        test("follows: NO: no locus", EdgesTest::followsNoLocus);
        test("follows: NO: also where its W is 0", EdgesTest::followsWhereWIsZero);
        test("touches: NO: no envelope", EdgesTest::touchesNoEnvelope);
        test("touches: NO: also where these meet in no place", EdgesTest::touchesInNoPlace);
        test("touches: NO: or are no two lines: they are the same", EdgesTest::touchesSameLine);
        test("touches: NO: or are no two lines: one is no line", EdgesTest::touchesNoLine);
        test("touches: 1 elsewhere", EdgesTest::touchesElsewhere);
    }

    private static void followsNoLocus() {
        due("n is 0", row(of(1), of(2), of(3)).follows(1, 1), NO);
        due("n is 0, N is 1", row(of(0, 1), of(0, 2), of(0, 3)).follows(1, 1), NO);
        due("W is 0", row(of(0, 1), of(1), of()).follows(1, 0), NO);
        due("the row is 0", new EliminateLoci().follows(0, 1), NO);
    }

    private static void followsWhereWIsZero() {
        due("at 0", hyperbola().follows(0, 5), NO);
        due("beyond", hyperbola().follows(5, 0), NO);
        due("else", hyperbola().follows(5, 5), 1);
        due("beyond the parabola", parabola().follows(1, 0), NO);
        // where t is 0 all three are, though the freed row's W is not
        EliminateLoci common = row(of(0, 0, 1), of(0, 0, 0, 1), of(0, 1));
        due("the common zero", common.follows(0, 1), NO);
        due("beside it", common.follows(1, 9), 1);
        due("W is t - 2", row(of(0, 1), of(0, 0, 1), of(-2, 1)).follows(-4, -2), NO);
    }

    private static void touchesNoEnvelope() {
        due("N is 1", row(of(1, 2), of(3, 4), of(5)).touches(1, 1), NO);
        due("0 all over", row(of(0, 0, 1), of(0, 0, 0, 1), of(0, 0, 2)).touches(1, 1), NO);
        due("a constant", row(of(0, 0, 1), of(), of(0, 1)).touches(1, 1), NO);
        due("the row is 0", new EliminateLoci().touches(0, 1), NO);
    }

    private static void touchesInNoPlace() {
        // x (u^2 + v^2) + 2 u v: by u 2 x u + 2 v, by v 2 x v + 2 u
        EliminateLoci uprights = row(of(1, 0, 1), of(), of(0, 2));
        due("it has an envelope", uprights.trace(1), 2);
        due("x = -2, x = -1 / 2", uprights.touches(1, 2), NO);
        // (x + y) u^2 + (x + y + 1) v^2
        EliminateLoci slanting = row(of(1, 0, 1), of(1, 0, 1), of(1));
        due("it has an envelope", slanting.trace(1), 2);
        due("x + y = 0, x + y = -1", slanting.touches(3, -2), NO);
    }

    private static void touchesSameLine() {
        EliminateLoci uprights = row(of(1, 0, 1), of(), of(0, 2));
        due("x = -1, x = -1", uprights.touches(1, 1), NO);
        due("x = 1, x = 1", uprights.touches(-9, 9), NO);
        // (t - 1) (x t + y) at 1: by u x + y, by v -x - y
        EliminateLoci common = row(of(0, -1, 1), of(-1, 1), of());
        due("it has an envelope", common.trace(1), 1);
        due("x + y, -x - y", common.touches(1, 1), NO);
    }

    private static void touchesNoLine() {
        // x u^2 + y v^2: by u 2 x u, by v 2 y v
        EliminateLoci cross = row(of(0, 0, 1), of(1), of());
        due("0 by u", cross.touches(0, 1), NO);
        due("0 by v", cross.touches(1, 0), NO);
        due("none is 0", cross.touches(1, 1), 1);
        // x u v^2 + y u^3 + v^3: at 0 by u x, by v 3
        EliminateLoci cubic = row(of(0, 1), of(0, 0, 0, 1), of(1));
        due("3 by v", cubic.touches(0, 1), NO);
        due("none is a number", cubic.touches(2, 1), 1);
        // x v^2 + y u v + u^2: beyond by u 2, by v y
        EliminateLoci turned = row(of(1), of(0, 1), of(0, 0, 1));
        due("2 by u", turned.touches(1, 0), NO);
    }

    private static void touchesElsewhere() {
        for (int u = -9; u <= 9; u++) {
            for (int v = -9; v <= 9; v += 3) {
                due("touches(" + u + ", " + v + ")", circle().touches(u, v), u == 0 && v == 0 ? BAD : 1);
            }
        }
    }
}
