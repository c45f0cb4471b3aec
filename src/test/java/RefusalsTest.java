import java.util.ArrayList;
import java.util.List;

/**
 * Each number that is not as told, of each call: it is refused with the number that the document
 * names, whatever the row is, and changes nothing, neither before a curve was asked for nor
 * between two calls that ask for the same one. So for what there is none of.
 */
public final class RefusalsTest extends Checks {
    /** A call with all its arguments. */
    private interface Call {
        long on(EliminateLoci loci);
    }

    /** Beside 0 .. 2, as those of which and part and what. */
    private static final int[] NO_PARTS = {-1, 3, 4, 256, 65536, LEAST, LEAST + 1, MOST, MOST - 1};
    private static final int[] NO_POWERS = {-1, 5, 6, 256, 65537, LEAST, MOST};
    private static final int[] NO_COEFFICIENTS = {-8, 8, 9, 14, 256, -256, 65543, LEAST, LEAST + 7, MOST};
    private static final int[] NO_SORTS = {-1, 2, 3, 256, 257, LEAST, LEAST + 1, MOST};
    private static final int[] NO_PARAMETERS = {-10, 10, 18, 256, 65545, LEAST, LEAST + 9, MOST};
    private static final int[] NO_EXPONENTS = {-1, 7, 8, 256, LEAST, LEAST + 6, MOST, MOST - 6};
    private static final int[] NO_PLACES = {-21, 21, 22, 40, 256, -256, 65556, LEAST, LEAST + 20, MOST};
    private static final int[] NO_SHARES = {0, -1, 10, 11, -9, 257, 65537, LEAST, LEAST + 1, MOST};

    private static final int[][][] ROWS = {
        // the circle, with both curves
        {{1, 0, -1}, {0, 2}, {1, 0, 1}},
        // all 0: no curve
        {{}, {}, {}},
        // constants: no curve
        {{3}, {-2}, {7}},
        // N is 1: a locus alone
        {{1, 2}, {3, 4}, {1}},
        // W is 0: an envelope alone
        {{0, 0, 0, 1}, {1, 1}, {}},
        // t + 1 in common: N is 3, n is 2
        {{0, 1, 1}, {0, 0, 1, 1}, {1, 1}},
        // the greatest numbers
        {{-7, -7, -7, -6, 7}, {-7, 7, -7, -7, 7}, {7, 6, 7, 7, -7}},
    };

    public static void main(String[] args) {
        test("term: which other than 0, 1, 2: -100", RefusalsTest::termWhich);
        test("term: i not 0 .. 4: -100", RefusalsTest::termPower);
        test("term: also v not -7 .. 7: -100", RefusalsTest::termCoefficient);
        test("degree: what not 0 .. 2: BAD", RefusalsTest::degreeWhat);
        test("freed: which other than 0, 1, 2: -1000000", RefusalsTest::freedWhich);
        test("freed: also i not 0 .. 4: -1000000", RefusalsTest::freedPower);
        test("value: u, v not -9 .. 9: -1000000", RefusalsTest::valueParameter);
        test("value: u, v both 0: -1000000", RefusalsTest::valueBothZero);
        test("value: also another part: -1000000", RefusalsTest::valuePart);
        test("trace: sort other than 0 and 1: BAD", RefusalsTest::traceSort);
        test("times: sort other than 0 and 1: BAD", RefusalsTest::timesSort);
        test("coefficient: BAD: sort: 0", RefusalsTest::coefficientSort);
        test("coefficient: i, j not 0 .. 6: 0", RefusalsTest::coefficientExponents);
        test("side: sort other than 0 and 1: -9", RefusalsTest::sideSort);
        test("side: also p, q not -20 .. 20: -9", RefusalsTest::sidePlace);
        test("side: s not 1 .. 9: -9", RefusalsTest::sideShare);
        test("at: u, v not -9 .. 9: -9", RefusalsTest::atParameter);
        test("at: u, v both 0: -9", RefusalsTest::atBothZero);
        test("at: p, q not -20 .. 20: -9", RefusalsTest::atPlace);
        test("at: s not 1 .. 9: -9", RefusalsTest::atShare);
        test("follows: u, v not -9 .. 9: BAD", RefusalsTest::followsParameter);
        test("follows: u, v both 0: BAD", RefusalsTest::followsBothZero);
        test("touches: u, v not -9 .. 9: BAD", RefusalsTest::touchesParameter);
        test("touches: u, v both 0: BAD", RefusalsTest::touchesBothZero);
        test("several wrong numbers in one call", RefusalsTest::severalWrong);
        test("Of several refusals the first one here: BAD, NO", RefusalsTest::badBeforeNo);
        test("NO of a locus changes nothing", RefusalsTest::noLocus);
        test("NO of an envelope changes nothing", RefusalsTest::noEnvelope);
        test("NO at a parameter changes nothing", RefusalsTest::noAtParameter);
        test("refused calls between changes of the row", RefusalsTest::betweenChanges);
        end();
    }

    // ---- what can be seen of an object, but for the row itself, which term() alone tells

    private static List<Long> seen(EliminateLoci loci) {
        List<Long> answers = new ArrayList<>();
        for (int n = 0; n < 3; n++) {
            answers.add((long) loci.degree(n));
            answers.add((long) loci.value(2, -3, n));
            answers.add((long) loci.value(1, 0, n));
            for (int i = 0; i <= 4; i++) {
                answers.add((long) loci.freed(n, i));
            }
        }
        for (int sort = 0; sort < 2; sort++) {
            answers.add((long) loci.trace(sort));
            answers.add((long) loci.times(sort));
            answers.add((long) loci.side(sort, 3, 4, 5));
            answers.add((long) loci.side(sort, -20, 20, 9));
            for (int i = 0; i <= 6; i++) {
                for (int j = 0; i + j <= 6; j++) {
                    answers.add(loci.coefficient(sort, i, j));
                }
            }
        }
        answers.add((long) loci.at(1, 2, 3, 4, 5));
        answers.add((long) loci.follows(0, 1));
        answers.add((long) loci.follows(1, 0));
        answers.add((long) loci.touches(0, 1));
        answers.add((long) loci.touches(1, 0));
        return answers;
    }

    private static void dueSame(String what, List<Long> got, List<Long> want) {
        for (int i = 0; i < want.size(); i++) {
            due(what + ": thing " + i + " of what is seen then", got.get(i), want.get(i));
        }
    }

    private static void refusedOn(int[][] parts, String what, Call call, long want) {
        List<Long> untouched = seen(row(parts[0], parts[1], parts[2]));
        EliminateLoci loci = row(parts[0], parts[1], parts[2]);
        due(what, call.on(loci), want);
        dueSame(what + " before all", seen(loci), untouched);
        due(what + " again", call.on(loci), want);
        dueSame(what + " between two like calls", seen(loci), untouched);
        dueRow(what, loci, parts);
    }

    private static void refused(String what, Call call, long want) {
        for (int[][] parts : ROWS) {
            refusedOn(parts, what, call, want);
        }
    }

    // ---- each number of each call

    private static void termWhich() {
        for (int which : NO_PARTS) {
            refused("term(" + which + ", 0, 0)", loci -> loci.term(which, 0, 0), BAD_TERM);
            refused("term(" + which + ", 4, 5)", loci -> loci.term(which, 4, 5), BAD_TERM);
        }
    }

    private static void termPower() {
        for (int i : NO_POWERS) {
            refused("term(0, " + i + ", 0)", loci -> loci.term(0, i, 0), BAD_TERM);
            refused("term(2, " + i + ", 5)", loci -> loci.term(2, i, 5), BAD_TERM);
        }
    }

    private static void termCoefficient() {
        for (int v : NO_COEFFICIENTS) {
            refused("term(0, 0, " + v + ")", loci -> loci.term(0, 0, v), BAD_TERM);
            refused("term(2, 4, " + v + ")", loci -> loci.term(2, 4, v), BAD_TERM);
        }
    }

    private static void degreeWhat() {
        for (int what : NO_PARTS) {
            refused("degree(" + what + ")", loci -> loci.degree(what), BAD);
        }
    }

    private static void freedWhich() {
        for (int which : NO_PARTS) {
            refused("freed(" + which + ", 0)", loci -> loci.freed(which, 0), BAD_NUMBER);
            refused("freed(" + which + ", 4)", loci -> loci.freed(which, 4), BAD_NUMBER);
        }
    }

    private static void freedPower() {
        for (int i : NO_POWERS) {
            refused("freed(0, " + i + ")", loci -> loci.freed(0, i), BAD_NUMBER);
            refused("freed(2, " + i + ")", loci -> loci.freed(2, i), BAD_NUMBER);
        }
    }

    private static void valueParameter() {
        for (int n : NO_PARAMETERS) {
            refused("value(" + n + ", 1, 0)", loci -> loci.value(n, 1, 0), BAD_NUMBER);
            refused("value(1, " + n + ", 2)", loci -> loci.value(1, n, 2), BAD_NUMBER);
            refused("value(" + n + ", 0, 1)", loci -> loci.value(n, 0, 1), BAD_NUMBER);
        }
    }

    private static void valueBothZero() {
        for (int part = 0; part < 3; part++) {
            int n = part;
            refused("value(0, 0, " + n + ")", loci -> loci.value(0, 0, n), BAD_NUMBER);
        }
    }

    private static void valuePart() {
        for (int part : NO_PARTS) {
            refused("value(1, 1, " + part + ")", loci -> loci.value(1, 1, part), BAD_NUMBER);
            refused("value(1, 0, " + part + ")", loci -> loci.value(1, 0, part), BAD_NUMBER);
        }
    }

    private static void traceSort() {
        for (int sort : NO_SORTS) {
            refused("trace(" + sort + ")", loci -> loci.trace(sort), BAD);
        }
    }

    private static void timesSort() {
        for (int sort : NO_SORTS) {
            refused("times(" + sort + ")", loci -> loci.times(sort), BAD);
        }
    }

    private static void coefficientSort() {
        for (int sort : NO_SORTS) {
            refused("coefficient(" + sort + ", 0, 0)", loci -> loci.coefficient(sort, 0, 0), 0);
            refused("coefficient(" + sort + ", 2, 0)", loci -> loci.coefficient(sort, 2, 0), 0);
        }
    }

    private static void coefficientExponents() {
        for (int n : NO_EXPONENTS) {
            for (int sort = 0; sort < 2; sort++) {
                int kind = sort;
                refused("coefficient(" + kind + ", " + n + ", 0)", loci -> loci.coefficient(kind, n, 0), 0);
                refused("coefficient(" + kind + ", 0, " + n + ")", loci -> loci.coefficient(kind, 0, n), 0);
                // where the sum of both alone would look right
                refused("coefficient(" + kind + ", " + n + ", " + (2 - n) + ")",
                        loci -> loci.coefficient(kind, n, 2 - n), 0);
            }
        }
    }

    private static void sideSort() {
        for (int sort : NO_SORTS) {
            refused("side(" + sort + ", 0, 0, 1)", loci -> loci.side(sort, 0, 0, 1), BAD_PLACE);
        }
    }

    private static void sidePlace() {
        for (int n : NO_PLACES) {
            for (int sort = 0; sort < 2; sort++) {
                int kind = sort;
                refused("side(" + kind + ", " + n + ", 0, 1)", loci -> loci.side(kind, n, 0, 1), BAD_PLACE);
                refused("side(" + kind + ", 0, " + n + ", 9)", loci -> loci.side(kind, 0, n, 9), BAD_PLACE);
            }
        }
    }

    private static void sideShare() {
        for (int s : NO_SHARES) {
            for (int sort = 0; sort < 2; sort++) {
                int kind = sort;
                refused("side(" + kind + ", 0, 0, " + s + ")", loci -> loci.side(kind, 0, 0, s), BAD_PLACE);
                refused("side(" + kind + ", 20, -20, " + s + ")", loci -> loci.side(kind, 20, -20, s), BAD_PLACE);
            }
        }
    }

    private static void atParameter() {
        for (int n : NO_PARAMETERS) {
            refused("at(" + n + ", 1, 0, 0, 1)", loci -> loci.at(n, 1, 0, 0, 1), BAD_PLACE);
            refused("at(1, " + n + ", 0, 0, 1)", loci -> loci.at(1, n, 0, 0, 1), BAD_PLACE);
        }
    }

    private static void atBothZero() {
        refused("at(0, 0, 0, 0, 1)", loci -> loci.at(0, 0, 0, 0, 1), BAD_PLACE);
        refused("at(0, 0, 20, -20, 9)", loci -> loci.at(0, 0, 20, -20, 9), BAD_PLACE);
    }

    private static void atPlace() {
        for (int n : NO_PLACES) {
            refused("at(1, 1, " + n + ", 0, 1)", loci -> loci.at(1, 1, n, 0, 1), BAD_PLACE);
            refused("at(1, 0, 0, " + n + ", 9)", loci -> loci.at(1, 0, 0, n, 9), BAD_PLACE);
        }
    }

    private static void atShare() {
        for (int s : NO_SHARES) {
            refused("at(1, 1, 0, 0, " + s + ")", loci -> loci.at(1, 1, 0, 0, s), BAD_PLACE);
            refused("at(0, 1, 20, 20, " + s + ")", loci -> loci.at(0, 1, 20, 20, s), BAD_PLACE);
        }
    }

    private static void followsParameter() {
        for (int n : NO_PARAMETERS) {
            refused("follows(" + n + ", 1)", loci -> loci.follows(n, 1), BAD);
            refused("follows(1, " + n + ")", loci -> loci.follows(1, n), BAD);
            refused("follows(" + n + ", 0)", loci -> loci.follows(n, 0), BAD);
        }
    }

    private static void followsBothZero() {
        refused("follows(0, 0)", loci -> loci.follows(0, 0), BAD);
    }

    private static void touchesParameter() {
        for (int n : NO_PARAMETERS) {
            refused("touches(" + n + ", 1)", loci -> loci.touches(n, 1), BAD);
            refused("touches(1, " + n + ")", loci -> loci.touches(1, n), BAD);
            refused("touches(" + n + ", 0)", loci -> loci.touches(n, 0), BAD);
        }
    }

    private static void touchesBothZero() {
        refused("touches(0, 0)", loci -> loci.touches(0, 0), BAD);
    }

    private static void severalWrong() {
        refused("term(3, 5, 8)", loci -> loci.term(3, 5, 8), BAD_TERM);
        refused("term(-1, -1, -8)", loci -> loci.term(-1, -1, -8), BAD_TERM);
        refused("freed(3, 5)", loci -> loci.freed(3, 5), BAD_NUMBER);
        refused("value(0, 0, 3)", loci -> loci.value(0, 0, 3), BAD_NUMBER);
        refused("value(10, 10, -1)", loci -> loci.value(10, 10, -1), BAD_NUMBER);
        refused("coefficient(2, 7, -1)", loci -> loci.coefficient(2, 7, -1), 0);
        refused("side(2, 21, -21, 0)", loci -> loci.side(2, 21, -21, 0), BAD_PLACE);
        refused("at(0, 0, 21, 21, 10)", loci -> loci.at(0, 0, 21, 21, 10), BAD_PLACE);
        refused("follows(-10, 10)", loci -> loci.follows(-10, 10), BAD);
        refused("touches(-10, 10)", loci -> loci.touches(-10, 10), BAD);
    }

    // ---- what there is none of

    private static void badBeforeNo() {
        EliminateLoci none = new EliminateLoci();
        due("trace(0)", none.trace(0), NO);
        due("trace(2)", none.trace(2), BAD);
        due("times(1)", none.times(1), NO);
        due("times(-1)", none.times(-1), BAD);
        due("coefficient(0, 7, 0)", none.coefficient(0, 7, 0), 0);
        due("side(0, 0, 0, 1)", none.side(0, 0, 0, 1), NO_SIDE);
        due("side(0, 0, 0, 0)", none.side(0, 0, 0, 0), BAD_PLACE);
        due("side(1, 21, 0, 1)", none.side(1, 21, 0, 1), BAD_PLACE);
        due("side(2, 0, 0, 1)", none.side(2, 0, 0, 1), BAD_PLACE);
        due("follows(1, 1)", none.follows(1, 1), NO);
        due("follows(0, 0)", none.follows(0, 0), BAD);
        due("touches(1, 1)", none.touches(1, 1), NO);
        due("touches(10, 1)", none.touches(10, 1), BAD);
        // where W is 0, at has no refusal, but a wrong place is one
        due("at(1, 1, 0, 0, 1)", none.at(1, 1, 0, 0, 1), 0);
        due("at(1, 1, 0, 0, 10)", none.at(1, 1, 0, 0, 10), BAD_PLACE);
    }

    private static final int[][][] WITHOUT_LOCUS = {
        {{}, {}, {}}, {{3}, {-2}, {7}}, {{0, 0, 0, 1}, {1, 1}, {}}, {{0, 1}, {0, 2}, {0, 3}}};
    private static final int[][][] WITHOUT_ENVELOPE = {
        {{}, {}, {}}, {{1, 2}, {3, 4}, {1}}, {{0, 0, 1}, {0, 0, 0, 1}, {0, 0, 2}}, {{}, {}, {1, 0, 1}}};

    private static void noLocus() {
        for (int[][] parts : WITHOUT_LOCUS) {
            refusedOn(parts, "trace(0)", loci -> loci.trace(0), NO);
            refusedOn(parts, "times(0)", loci -> loci.times(0), NO);
            refusedOn(parts, "coefficient(0, 0, 0)", loci -> loci.coefficient(0, 0, 0), 0);
            refusedOn(parts, "side(0, 0, 0, 1)", loci -> loci.side(0, 0, 0, 1), NO_SIDE);
            refusedOn(parts, "follows(1, 1)", loci -> loci.follows(1, 1), NO);
        }
    }

    private static void noEnvelope() {
        for (int[][] parts : WITHOUT_ENVELOPE) {
            refusedOn(parts, "trace(1)", loci -> loci.trace(1), NO);
            refusedOn(parts, "times(1)", loci -> loci.times(1), NO);
            refusedOn(parts, "coefficient(1, 0, 0)", loci -> loci.coefficient(1, 0, 0), 0);
            refusedOn(parts, "side(1, 0, 0, 1)", loci -> loci.side(1, 0, 0, 1), NO_SIDE);
            refusedOn(parts, "touches(1, 1)", loci -> loci.touches(1, 1), NO);
        }
    }

    private static void noAtParameter() {
        int[][] hyperbola = {{0, 0, 1}, {1}, {0, 1}};
        refusedOn(hyperbola, "follows(0, 1)", loci -> loci.follows(0, 1), NO);
        int[][] uprights = {{1, 0, 1}, {}, {0, 2}};
        refusedOn(uprights, "touches(1, 2)", loci -> loci.touches(1, 2), NO);
    }

    private static void betweenChanges() {
        EliminateLoci loci = new EliminateLoci();
        due("none yet", loci.trace(0), NO);
        set(loci, of(0, 1), of(0, 0, 1), of(1));
        due("refused term", loci.term(1, 2, 8), BAD_TERM);
        due("parabola", loci.coefficient(0, 0, 1), -1);
        due("refused term", loci.term(1, 2, -8), BAD_TERM);
        due("parabola still", loci.coefficient(0, 0, 1), -1);
        due("a term", loci.term(1, 2, -1), 1);
        due("refused term", loci.term(1, 2, 9), BAD_TERM);
        due("turned parabola", loci.coefficient(0, 0, 1), 1);
        due("no W", loci.term(2, 0, 0), 1);
        due("none now", loci.trace(0), NO);
        due("refused term", loci.term(2, 5, 1), BAD_TERM);
        due("none still", loci.times(0), NO);
        due("W again", loci.term(2, 0, 1), 0);
        due("turned parabola again", loci.coefficient(0, 0, 1), 1);
    }
}
