/** What the tests with answers worked out by hand share: rows, and answers that are due. */
abstract class Checks {
    static final int BAD = -1;
    static final int NO = -2;
    static final int BAD_TERM = -100;
    static final int BAD_NUMBER = -1000000;
    static final int BAD_PLACE = -9;
    static final int NO_SIDE = -8;
    static final int LEAST = Integer.MIN_VALUE;
    static final int MOST = Integer.MAX_VALUE;

    private static int wrong = 0;
    private static int ran = 0;
    private static String sentence = "";

    /** A test of its own for a sentence of the document, which is told if an answer is wrong. */
    static void test(String words, Runnable body) {
        sentence = words;
        ran++;
        body.run();
        sentence = "";
    }

    static void end() {
        System.out.println(wrong == 0 ? ran + " sentences hold" : wrong + " answers are not as due");
        if (wrong != 0) {
            System.exit(1);
        }
    }

    static void due(String what, long got, long want) {
        if (got != want) {
            wrong++;
            System.out.println("'" + sentence + "': " + what + " answered " + got + ", due is " + want);
        }
    }

    static int[] of(int... coefficients) {
        return coefficients;
    }

    /** Polynomials by rising powers. */
    static EliminateLoci row(int[] x, int[] y, int[] w) {
        EliminateLoci loci = new EliminateLoci();
        set(loci, x, y, w);
        return loci;
    }

    static void set(EliminateLoci loci, int[]... parts) {
        for (int which = 0; which < 3; which++) {
            for (int i = 0; i <= 4; i++) {
                loci.term(which, i, i < parts[which].length ? parts[which][i] : 0);
            }
        }
    }

    /** Both as a mover and by its lines, x^2 + y^2 - 1. */
    static EliminateLoci circle() {
        return row(of(1, 0, -1), of(0, 2), of(1, 0, 1));
    }

    /** x = t, y = t^2: x^2 - y. Its lines x t + y t^2 + 1: x^2 - 4 y. */
    static EliminateLoci parabola() {
        return row(of(0, 1), of(0, 0, 1), of(1));
    }

    /** x = t, y = 1 / t, told by t^2, 1, t: beyond all t and at 0 its W is 0. */
    static EliminateLoci hyperbola() {
        return row(of(0, 0, 1), of(1), of(0, 1));
    }

    static void dueRow(String what, EliminateLoci loci, int[]... want) {
        for (int which = 0; which < 3; which++) {
            for (int i = 0; i <= 4; i++) {
                int due = i < want[which].length ? want[which][i] : 0;
                due(what + ": term(" + which + ", " + i + ", " + due + ")", loci.term(which, i, due), due);
            }
        }
    }

    static void dueFreed(String what, EliminateLoci loci, int[]... want) {
        for (int which = 0; which < 3; which++) {
            for (int i = 0; i <= 4; i++) {
                int due = i < want[which].length ? want[which][i] : 0;
                due(what + ": freed(" + which + ", " + i + ")", loci.freed(which, i), due);
            }
        }
    }

    static void dueDegrees(String what, EliminateLoci loci, int whole, int rest) {
        due(what + ": degree(0)", loci.degree(0), whole);
        due(what + ": degree(1)", loci.degree(1), rest);
        due(what + ": degree(2)", loci.degree(2), whole - rest);
    }

    static void dueValues(String what, EliminateLoci loci, int u, int v, int... want) {
        for (int part = 0; part < 3; part++) {
            due(what + ": value(" + u + ", " + v + ", " + part + ")", loci.value(u, v, part), want[part]);
        }
    }

    static void dueSide(String what, EliminateLoci loci, int sort, int p, int q, int s, int want) {
        due(what + ": side(" + sort + ", " + p + ", " + q + ", " + s + ")", loci.side(sort, p, q, s), want);
    }

    /** Terms as i, j, coefficient; all others have to be 0. */
    static void dueCurve(String what, EliminateLoci loci, int sort, int degree, int times, long... terms) {
        due(what + ": trace(" + sort + ")", loci.trace(sort), degree);
        due(what + ": times(" + sort + ")", loci.times(sort), times);
        for (int i = 0; i <= 6; i++) {
            for (int j = 0; j <= 6; j++) {
                long want = 0;
                for (int t = 0; t + 2 < terms.length; t += 3) {
                    want = terms[t] == i && terms[t + 1] == j ? terms[t + 2] : want;
                }
                due(what + ": coefficient(" + sort + ", " + i + ", " + j + ")", loci.coefficient(sort, i, j), want);
            }
        }
    }

    static void dueNoCurve(String what, EliminateLoci loci, int sort) {
        dueCurve(what, loci, sort, NO, NO);
        dueSide(what, loci, sort, 1, 2, 3, NO_SIDE);
        due(what + ": meets", sort == 0 ? loci.follows(1, 2) : loci.touches(1, 2), NO);
    }
}
