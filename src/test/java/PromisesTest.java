/** Each promise of the document, with answers worked out by hand. */
public final class PromisesTest extends Checks {
    public static void main(String[] args) {
        test("The public face", PromisesTest::constants);
        test("1 A new object", PromisesTest::promise1NewObject);
        test("2 term", PromisesTest::promise2Term);
        test("3 clear", PromisesTest::promise3Clear);
        test("4 degree", PromisesTest::promise4Degree);
        test("5 freed", PromisesTest::promise5Freed);
        test("6 value", PromisesTest::promise6Value);
        test("7 trace, 8 times of a locus", PromisesTest::promise7And8Locus);
        test("7 trace, 8 times of an envelope", PromisesTest::promise7And8Envelope);
        test("9 coefficient", PromisesTest::promise9Coefficient);
        test("10 side", PromisesTest::promise10Side);
        test("11 at", PromisesTest::promise11At);
        test("12 follows", PromisesTest::promise12Follows);
        test("13 touches", PromisesTest::promise13Touches);
        test("refusals change nothing", PromisesTest::refusalsChangeNothing);
        test("answers follow the row", PromisesTest::answersFollowTheRow);
        end();
    }

    private static void constants() {
        due("BAD", EliminateLoci.BAD, BAD);
        due("NO", EliminateLoci.NO, NO);
    }

    private static void promise1NewObject() {
        EliminateLoci loci = new EliminateLoci();
        for (int what = 0; what <= 2; what++) {
            due("new degree(" + what + ")", loci.degree(what), 0);
        }
        dueFreed("new", loci, of(), of(), of());
        for (int which = 0; which < 3; which++) {
            due("new value", loci.value(9, -9, which), 0);
            for (int i = 0; i <= 4; i++) {
                due("new term(" + which + ", " + i + ", 0)", loci.term(which, i, 0), 0);
            }
        }
        dueNoCurve("new locus", loci, 0);
        dueNoCurve("new envelope", loci, 1);
        due("new at", loci.at(1, 1, 0, 0, 1), 0);
        due("new clear()", loci.clear(), 0);
    }

    private static void promise2Term() {
        EliminateLoci loci = new EliminateLoci();
        for (int which = 0; which < 3; which++) {
            for (int i = 0; i <= 4; i++) {
                due("first term", loci.term(which, i, which + i), 0);
            }
        }
        for (int which = 0; which < 3; which++) {
            for (int i = 0; i <= 4; i++) {
                due("second term", loci.term(which, i, -7), which + i);
                due("third term", loci.term(which, i, 7), -7);
                due("fourth term", loci.term(which, i, 7), 7);
            }
        }
        int[][] bad = {{-1, 0, 1}, {3, 0, 1}, {0, -1, 1}, {0, 5, 1}, {0, 0, 8}, {0, 0, -8},
            {Integer.MIN_VALUE, 0, 0}, {Integer.MAX_VALUE, 0, 0}, {0, Integer.MIN_VALUE, 0},
            {0, Integer.MAX_VALUE, 0}, {0, 0, Integer.MIN_VALUE}, {0, 0, Integer.MAX_VALUE}, {9, 9, 9}};
        for (int[] b : bad) {
            due("bad term", loci.term(b[0], b[1], b[2]), -100);
        }
        due("term after bad ones", loci.term(0, 0, 0), 7);
        due("clear() after term", loci.clear(), 14);
    }

    private static void promise3Clear() {
        EliminateLoci loci = circle();
        due("trace before clear", loci.trace(0), 2);
        due("clear()", loci.clear(), 5);
        due("clear() again", loci.clear(), 0);
        dueFreed("cleared", loci, of(), of(), of());
        dueNoCurve("cleared locus", loci, 0);
        dueNoCurve("cleared envelope", loci, 1);
        due("term after clear", loci.term(0, 2, 3), 0);
        due("degree after clear", loci.degree(0), 2);
        due("clear() of one", loci.clear(), 1);
        EliminateLoci full = row(of(1, 1, 1, 1, 1), of(-1, -1, -1, -1, -1), of(7, 7, 7, 7, 7));
        due("clear() of all", full.clear(), 15);
    }

    private static void promise4Degree() {
        dueDegrees("constants", row(of(3), of(-2), of(1)), 0, 0);
        dueDegrees("circle", circle(), 2, 2);
        dueDegrees("t times", row(of(0, 1), of(0, 0, 1), of(0, 2)), 2, 1);
        dueDegrees("only Y", row(of(), of(1, 2, 3, 4, 5), of()), 4, 0);
        dueDegrees("like ones", row(of(1, 1, 1, 1, 1), of(2, 2, 2, 2, 2), of(-3, -3, -3, -3, -3)), 4, 0);
        dueDegrees("t^2 + 1", row(of(1, 0, 1), of(0, 1, 0, 1), of(1, 0, 2, 0, 1)), 4, 2);
        due("degree(-1)", circle().degree(-1), BAD);
        due("degree(3)", circle().degree(3), BAD);
    }

    private static void promise5Freed() {
        dueFreed("circle", circle(), of(1, 0, -1), of(0, 2), of(1, 0, 1));
        dueFreed("t - 1", row(of(-1, 0, 1), of(0, -2, 2), of(-3, 3)), of(1, 1), of(0, 2), of(3));
        dueFreed("the highest above 0", row(of(0, -1), of(), of(0, -2)), of(-1), of(), of(-2));
        dueFreed("contents stay", row(of(0, 2), of(0, 4), of(0, 6)), of(2), of(4), of(6));
        dueFreed("contents alone stay", row(of(2, 4), of(0, 6), of(2)), of(2, 4), of(0, 6), of(2));
        dueFreed("2 t + 3", row(of(6, 4), of(0, 3, 2), of(-3, -2)), of(2), of(0, 1), of(-1));
        dueFreed("only X", row(of(2, 0, 2), of(), of()), of(2), of(), of());
        dueFreed("only W, below 0", row(of(), of(), of(0, 0, 0, 0, -6)), of(), of(), of(-6));
        dueFreed("(t - 1)^2", row(of(1, -2, 1), of(0, 1, -2, 1), of(0, 0, 1, -2, 1)), of(1), of(0, 1), of(0, 0, 1));
        dueFreed("X and Y alone share", row(of(-1, 1), of(1, -2, 1), of(1, 1)), of(-1, 1), of(1, -2, 1), of(1, 1));
        // (t + 1)(7 t^3 - 14 t^2 + 14 t - 7): a quotient is greater than what a row may hold
        dueFreed("great quotient", row(of(-7, 7, 0, -7, 7), of(1, 1), of(0, 1, 1)),
                of(-7, 14, -14, 7), of(1), of(0, 1));
        EliminateLoci loci = circle();
        int[][] bad = {{-1, 0}, {3, 0}, {0, -1}, {0, 5}, {Integer.MIN_VALUE, 0}, {0, Integer.MAX_VALUE}};
        for (int[] b : bad) {
            due("bad freed", loci.freed(b[0], b[1]), -1000000);
        }
    }

    private static void promise6Value() {
        EliminateLoci loci = circle();
        dueValues("circle", loci, 2, 3, 5, 12, 13);
        dueValues("circle", loci, 9, -9, 0, -1, 1);
        dueValues("circle beyond", loci, -5, 0, -1, 0, 1);
        EliminateLoci constants = row(of(6), of(-4), of(2));
        dueValues("constants", constants, 5, 0, 3, -2, 1);
        dueValues("constants", constants, 0, -7, 3, -2, 1);
        // the row as it is: at its common zero all are 0
        EliminateLoci common = row(of(-1, 1), of(0, -1, 1), of(-2, 2));
        dueValues("common zero", common, 4, 4, 0, 0, 0);
        dueValues("no common zero", common, 1, -1, -1, 1, -2);
        EliminateLoci odd = row(of(0, 1), of(0, 0, 0, 1), of(1));
        dueValues("odd degree, both below 0", odd, -1, -2, -4, -1, -8);
        EliminateLoci great = row(of(7, 7, 7, 7, 7), of(1), of(0, 0, 0, 0, -7));
        dueValues("great", great, 9, 8, 7 * 26281, 4096, -7 * 6561);
        int[][] bad = {{0, 0, 0}, {10, 1, 0}, {-10, 1, 0}, {1, 10, 0}, {1, -10, 0}, {1, 1, -1}, {1, 1, 3},
            {Integer.MIN_VALUE, 1, 0}, {1, Integer.MAX_VALUE, 0}, {1, 1, Integer.MIN_VALUE}};
        for (int[] b : bad) {
            due("bad value", loci.value(b[0], b[1], b[2]), -1000000);
        }
    }

    private static void promise7And8Locus() {
        dueCurve("circle", circle(), 0, 2, 1, 2, 0, 1, 0, 2, 1, 0, 0, -1);
        dueCurve("line", row(of(1, 2), of(3, 4), of(1)), 0, 1, 1, 1, 0, 2, 0, 1, -1, 0, 0, 1);
        dueCurve("circle twice", row(of(1, 0, 0, 0, -1), of(0, 0, 2), of(1, 0, 0, 0, 1)), 0, 2, 2,
                2, 0, 1, 0, 2, 1, 0, 0, -1);
        dueCurve("line thrice", row(of(0, 0, 0, 1), of(), of(1)), 0, 1, 3, 0, 1, 1);
        dueCurve("standing line", row(of(5), of(0, 0, 0, 0, 1), of(2)), 0, 1, 4, 1, 0, 2, 0, 0, -5);
        dueCurve("parabola", row(of(0, 1), of(0, 0, 1), of(1)), 0, 2, 1, 2, 0, 1, 0, 1, -1);
        dueCurve("hyperbola", row(of(0, 0, 1), of(1), of(0, 1)), 0, 2, 1, 1, 1, 1, 0, 0, -1);
        // t (t, t^2, 1): freed of t, it is the parabola once
        dueCurve("freed parabola", row(of(0, 0, 1), of(0, 0, 0, 1), of(0, 1)), 0, 2, 1, 2, 0, 1, 0, 1, -1);
        // a pencil with its other places beyond all t: x = 1 / t^2, y = 1 / t
        dueCurve("parabola from beyond", row(of(1), of(0, 1), of(0, 0, 1)), 0, 2, 1, 0, 2, 1, 1, 0, -1);
        dueNoCurve("no W", row(of(1, 2), of(3, 4, 5), of()), 0);
        dueNoCurve("constants", row(of(1), of(2), of(3)), 0);
        dueNoCurve("one place", row(of(0, 0, 1), of(0, 0, 2), of(0, 0, 3)), 0);
        due("bad trace", circle().trace(2), BAD);
        due("bad trace", circle().trace(-1), BAD);
        due("bad times", circle().times(2), BAD);
        due("bad times", circle().times(Integer.MIN_VALUE), BAD);
        due("bad before no", new EliminateLoci().trace(2), BAD);
        due("bad before no", new EliminateLoci().times(-1), BAD);
    }

    private static void promise7And8Envelope() {
        dueCurve("circle", circle(), 1, 2, 1, 2, 0, 1, 0, 2, 1, 0, 0, -1);
        dueCurve("x t^2 + y t + 1", row(of(0, 0, 1), of(0, 1), of(1)), 1, 2, 1, 0, 2, 1, 1, 0, -4);
        dueCurve("x t + t^2", row(of(0, 1), of(), of(0, 0, 1)), 1, 1, 2, 1, 0, 1);
        dueCurve("x t + t^4", row(of(0, 1), of(), of(0, 0, 0, 0, 1)), 1, 1, 4, 1, 0, 1);
        dueCurve("x (t^4 + 1)", row(of(1, 0, 0, 0, 1), of(), of()), 1, 1, 6, 1, 0, 1);
        dueCurve("x t^4 + 2 y", row(of(0, 0, 0, 0, 1), of(2), of()), 1, 2, 3, 1, 1, 1);
        dueCurve("(x + y + 1) (t^3 + 2)", row(of(2, 0, 0, 1), of(2, 0, 0, 1), of(2, 0, 0, 1)), 1, 1, 4,
                1, 0, 1, 0, 1, 1, 0, 0, 1);
        // t (x + y t): the row as it is keeps t, whose line x = 0 is told
        dueCurve("with t in common", row(of(0, 1), of(0, 0, 1), of()), 1, 1, 2, 1, 0, 1);
        // (x - y) t^2 + 2 (x - y) t - (x - y): the discriminant 8 (x - y)^2
        dueCurve("first one above 0", row(of(1, -2, -1), of(-1, 2, 1), of()), 1, 1, 2, 1, 0, 1, 0, 1, -1);
        // x t^3 + 1: by degree 3, 27 x^2
        dueCurve("x t^3 + 1", row(of(0, 0, 0, 1), of(), of(1)), 1, 1, 2, 1, 0, 1);
        dueNoCurve("below 2", row(of(1, 2), of(3, 4), of(5, 6)), 1);
        dueNoCurve("0 all over", row(of(0, 0, 1), of(0, 0, 0, 1), of(0, 0, 2)), 1);
        dueNoCurve("constant", row(of(), of(), of(1, 0, 1)), 1);
        dueNoCurve("0 all over for lack of t", row(of(0, 0, 0, 0, 1), of(0, 0, 0, 0, 1), of(0, 0, 0, 0, 1)), 1);
    }

    private static void promise9Coefficient() {
        // 27 y^2 + 4 x^3 y, of x t + y t^3 + 1
        EliminateLoci loci = row(of(0, 1), of(0, 0, 0, 1), of(1));
        dueCurve("x t + y t^3 + 1", loci, 1, 4, 1, 3, 1, 4, 0, 2, 27);
        int[][] bad = {{-1, 0, 2}, {2, 0, 2}, {1, -1, 2}, {1, 7, 0}, {1, 0, -1}, {1, 0, 7},
            {1, Integer.MAX_VALUE, Integer.MAX_VALUE}, {1, Integer.MIN_VALUE, 0}, {Integer.MIN_VALUE, 0, 2}};
        for (int[] b : bad) {
            due("bad coefficient", loci.coefficient(b[0], b[1], b[2]), 0);
        }
        // (1 - t^4, 2 t^2, 1 + t^4), as q of t^2: (x^2 - 1) (x^2 + y^2 - 1)^2
        EliminateLoci sextic = row(of(1, 0, 0, 0, -1), of(0, 0, 2), of(1, 0, 0, 0, 1));
        dueCurve("degree 6", sextic, 1, 6, 1, 6, 0, 1, 4, 2, 2, 2, 4, 1, 4, 0, -3, 2, 2, -4, 0, 4, -1,
                2, 0, 3, 0, 2, 2, 0, 0, -1);
        // the contents 7 of both go, and 256 too
        EliminateLoci quartic = row(of(0, 0, 0, 0, 7), of(7), of());
        dueCurve("7 x t^4 + 7 y", quartic, 1, 2, 3, 1, 1, 1);
    }

    private static void promise10Side() {
        EliminateLoci loci = circle();
        for (int sort = 0; sort <= 1; sort++) {
            due("inside", loci.side(sort, 0, 0, 1), -1);
            due("on", loci.side(sort, -4, 3, 5), 0);
            due("near", loci.side(sort, 6, 7, 9), 1);
            due("outside", loci.side(sort, 20, 20, 1), 1);
            due("least share", loci.side(sort, 0, -1, 1), 0);
            due("greatest share", loci.side(sort, -9, 0, 9), 0);
            int[][] bad = {{21, 0, 1}, {-21, 0, 1}, {0, 21, 1}, {0, -21, 1}, {0, 0, 0}, {0, 0, 10}, {0, 0, -1},
                {Integer.MIN_VALUE, 0, 1}, {0, Integer.MAX_VALUE, 1}, {0, 0, Integer.MIN_VALUE}};
            for (int[] b : bad) {
                due("bad side", loci.side(sort, b[0], b[1], b[2]), -9);
                due("bad before no", new EliminateLoci().side(sort, b[0], b[1], b[2]), -9);
            }
        }
        due("bad sort", loci.side(2, 0, 0, 1), -9);
        due("bad sort", loci.side(-1, 0, 0, 1), -9);
        due("none", new EliminateLoci().side(0, 0, 0, 1), -8);
        due("none", new EliminateLoci().side(1, 0, 0, 1), -8);
        // E of the parabola is x^2 - y, of odd degree in y
        EliminateLoci parabola = row(of(0, 1), of(0, 0, 1), of(1));
        due("above the parabola", parabola.side(0, 0, 1, 9), -1);
        due("below the parabola", parabola.side(0, 0, -1, 9), 1);
        due("on the parabola", parabola.side(0, 6, 4, 9), 0);
    }

    private static void promise11At() {
        EliminateLoci loci = circle();
        due("at 2 / 3", loci.at(2, 3, 5, 12, 1), 0);
        due("at 1 / 2", loci.at(1, 2, 3, 4, 5), 1);
        due("at -1 / -2", loci.at(-1, -2, 3, 4, 5), 1);
        due("at -1 / 2", loci.at(-1, 2, 3, 4, 5), 0);
        due("at x alone", loci.at(1, 2, 3, -4, 5), 0);
        due("at y alone", loci.at(1, 2, -3, 4, 5), 0);
        due("beyond", loci.at(3, 0, -9, 0, 9), 1);
        EliminateLoci hyperbola = row(of(0, 0, 1), of(1), of(0, 1));
        due("W is 0", hyperbola.at(0, 1, 0, 0, 1), 0);
        due("all are 0", new EliminateLoci().at(0, 1, 0, 0, 1), 0);
        due("common zero", row(of(0, 1), of(0, 2), of(0, 1)).at(0, 1, 1, 2, 1), 0);
        due("beside common zero", row(of(0, 1), of(0, 2), of(0, 1)).at(1, 9, 1, 2, 1), 1);
        int[][] bad = {{0, 0, 0, 0, 1}, {10, 1, 0, 0, 1}, {1, -10, 0, 0, 1}, {1, 1, 21, 0, 1}, {1, 1, 0, -21, 1},
            {1, 1, 0, 0, 0}, {1, 1, 0, 0, 10}, {Integer.MIN_VALUE, 1, 0, 0, 1}, {1, 1, 0, 0, Integer.MIN_VALUE}};
        for (int[] b : bad) {
            due("bad at", loci.at(b[0], b[1], b[2], b[3], b[4]), -9);
        }
    }

    private static void promise12Follows() {
        EliminateLoci loci = circle();
        for (int u = -9; u <= 9; u++) {
            due("follows(" + u + ", 9)", loci.follows(u, 9), 1);
        }
        due("beyond", loci.follows(-9, 0), 1);
        EliminateLoci hyperbola = row(of(0, 0, 1), of(1), of(0, 1));
        due("W is 0", hyperbola.follows(0, 5), NO);
        due("W is 0 beyond", hyperbola.follows(5, 0), NO);
        due("W is not 0", hyperbola.follows(5, 1), 1);
        due("common zero", row(of(0, 1), of(0, 0, 1), of(0, 1)).follows(0, 1), NO);
        due("no locus", row(of(1), of(2), of(3)).follows(1, 1), NO);
        dueBadParameters("follows", loci, true);
        dueBadParameters("bad before no follows", new EliminateLoci(), true);
    }

    private static void dueBadParameters(String what, EliminateLoci loci, boolean follows) {
        int[][] bad = {{0, 0}, {10, 1}, {-10, 1}, {1, 10}, {1, -10}, {Integer.MIN_VALUE, 1}, {0, Integer.MAX_VALUE}};
        for (int[] b : bad) {
            due(what, follows ? loci.follows(b[0], b[1]) : loci.touches(b[0], b[1]), BAD);
        }
    }

    private static void promise13Touches() {
        EliminateLoci loci = circle();
        for (int u = -9; u <= 9; u++) {
            due("touches(" + u + ", 9)", loci.touches(u, 9), 1);
        }
        due("beyond", loci.touches(1, 0), 1);
        EliminateLoci cubic = row(of(0, 1), of(0, 0, 0, 1), of(1));
        due("no line", cubic.touches(0, 1), NO);
        due("two lines", cubic.touches(2, 1), 1);
        // x (t^2 + 1) + 2 t: by u 2 x u + 2 v, by v 2 x v + 2 u: both upright
        EliminateLoci upright = row(of(1, 0, 1), of(), of(0, 2));
        due("has an envelope", upright.trace(1), 2);
        due("no place", upright.touches(1, 2), NO);
        due("one line", upright.touches(1, 1), NO);
        due("no envelope", row(of(1, 2), of(3, 4), of(5)).touches(1, 1), NO);
        due("0 all over", row(of(0, 0, 1), of(0, 0, 0, 1), of(0, 0, 2)).touches(1, 1), NO);
        dueBadParameters("touches", loci, false);
        dueBadParameters("bad before no touches", new EliminateLoci(), false);
    }

    private static void refusalsChangeNothing() {
        EliminateLoci loci = circle();
        loci.term(0, 0, 8);
        loci.term(3, 0, 1);
        loci.degree(9);
        loci.freed(9, 9);
        loci.value(0, 0, 0);
        loci.trace(5);
        loci.times(5);
        loci.coefficient(5, 0, 0);
        loci.side(5, 0, 0, 0);
        loci.at(0, 0, 0, 0, 0);
        loci.follows(0, 0);
        loci.touches(0, 0);
        dueFreed("after refusals", loci, of(1, 0, -1), of(0, 2), of(1, 0, 1));
        dueCurve("after refusals", loci, 0, 2, 1, 2, 0, 1, 0, 2, 1, 0, 0, -1);
        dueCurve("after refusals", loci, 1, 2, 1, 2, 0, 1, 0, 2, 1, 0, 0, -1);
        due("clear() after refusals", loci.clear(), 5);
    }

    private static void answersFollowTheRow() {
        EliminateLoci loci = circle();
        dueCurve("before", loci, 0, 2, 1, 2, 0, 1, 0, 2, 1, 0, 0, -1);
        due("before", loci.trace(1), 2);
        loci.term(2, 2, 0);
        // (1 - t^2, 2 t, 1): 4 x + y^2 = 4; its lines: y^2 + x (x + 1) of t
        dueCurve("after", loci, 0, 2, 1, 0, 2, 1, 1, 0, 4, 0, 0, -4);
        dueCurve("after", loci, 1, 2, 1, 2, 0, 1, 0, 2, 1, 1, 0, 1);
        loci.term(2, 2, 1);
        dueCurve("again", loci, 0, 2, 1, 2, 0, 1, 0, 2, 1, 0, 0, -1);
        dueFreed("again", loci, of(1, 0, -1), of(0, 2), of(1, 0, 1));
    }
}
