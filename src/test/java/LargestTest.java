/**
 * The largest cases: degree 4 with coefficients of 7 and -7 (one of 6, where else 7 would go out of
 * all), common divisors up to degree 4, and 512 calls on one object. Long answers are from a
 * computer algebra's resultants and factors.
 */
public final class LargestTest extends Checks {
    private static final int MOST_CALLS = 512;

    public static void main(String[] args) {
        test("FREED of 7 and -7 that have nothing in common", LargestTest::freedOfSevens);
        test("FREED with quotients above 7", LargestTest::freedWithGreatQuotients);
        test("FREED of divisors with great coefficients", LargestTest::freedOfGreatDivisors);
        test("a common divisor of degree 4", LargestTest::divisorOfDegreeFour);
        test("the greatest VALUES", LargestTest::greatestValues);
        test("THE LOCUS of 7 and -7", LargestTest::locusOfSevens);
        test("THE LOCUS with the greatest coefficients", LargestTest::greatestLocus);
        test("side of the greatest LOCUS", LargestTest::sidesOfGreatestLocus);
        test("THE ENVELOPE of 7 and -7, of degree 6", LargestTest::envelopeOfSevens);
        test("THE ENVELOPE with the greatest coefficients", LargestTest::greatestEnvelope);
        test("side of the greatest ENVELOPE", LargestTest::sidesOfGreatestEnvelope);
        test("the greatest powers of great lines", LargestTest::greatestPowers);
        test("a small curve after the largest one", LargestTest::smallAfterLarge);
        test("An object is used for at most 512 calls: all of them askings", LargestTest::manyAskings);
        test("512 calls: a change before each asking", LargestTest::manyChanges);
        test("512 calls: whole rows, cleared", LargestTest::manyRows);
        test("512 calls: refused ones", LargestTest::manyRefusals);
        end();
    }

    private static EliminateLoci sevens() {
        return row(of(7, -7, 7, 7, -7), of(7, 7, -7, 7, 7), of(-7, 7, 7, -7, 7));
    }

    private static EliminateLoci greatLocus() {
        return row(of(7, 7, 7, -7, 6), of(-7, 7, -7, -7, -7), of(-6, -7, -7, 7, -7));
    }

    private static EliminateLoci greatEnvelope() {
        return row(of(-7, -7, -7, -6, 7), of(-7, 7, -7, -7, 7), of(7, 6, 7, 7, -7));
    }

    // ---- FREED

    private static void freedOfSevens() {
        dueFreed("sevens", sevens(), of(7, -7, 7, 7, -7), of(7, 7, -7, 7, 7), of(-7, 7, 7, -7, 7));
        dueDegrees("sevens", sevens(), 4, 4);
        dueFreed("great locus", greatLocus(), of(7, 7, 7, -7, 6), of(-7, 7, -7, -7, -7), of(-6, -7, -7, 7, -7));
        dueFreed("great envelope", greatEnvelope(), of(-7, -7, -7, -6, 7), of(-7, 7, -7, -7, 7), of(7, 6, 7, 7, -7));
    }

    private static void freedWithGreatQuotients() {
        // t - 1 times 7 t^3 + 14 t^2 + 14 t + 7, 7 t^3 + 7 t, 7 t^2 + 7
        EliminateLoci one = row(of(-7, -7, 0, 7, 7), of(0, -7, 7, -7, 7), of(-7, 7, -7, 7));
        dueFreed("t - 1", one, of(7, 14, 14, 7), of(0, 7, 0, 7), of(7, 0, 7));
        dueDegrees("t - 1", one, 4, 3);
        // t + 1 times 7 t^3 - 14 t^2 + 14 t - 7, its opposite, 7 t
        EliminateLoci turned = row(of(-7, 7, 0, -7, 7), of(7, -7, 0, 7, -7), of(0, 7, 7));
        dueFreed("t + 1", turned, of(-7, 14, -14, 7), of(7, -14, 14, -7), of(0, 7));
        // (t - 1)^2 times 7 t^2 + 10 t + 7, 3 t^2, -3
        EliminateLoci two = row(of(7, -4, -6, -4, 7), of(0, 0, 3, -6, 3), of(-3, 6, -3));
        dueFreed("(t - 1)^2", two, of(7, 10, 7), of(0, 0, 3), of(-3));
        dueDegrees("(t - 1)^2", two, 4, 2);
    }

    private static void freedOfGreatDivisors() {
        // (7 t - 6) (t + 1) times t^2 + 1, t^2 - t + 1, t - 1
        EliminateLoci loci = row(of(-6, 1, 1, 1, 7), of(-6, 7, 0, -6, 7), of(6, -7, -6, 7));
        dueFreed("7 t^2 + t - 6", loci, of(1, 0, 1), of(1, -1, 1), of(-1, 1));
        dueDegrees("7 t^2 + t - 6", loci, 4, 2);
        // 7 t^3 - 6 t^2 + 5 t - 7 times t, 1, -1
        EliminateLoci cubic = row(of(0, -7, 5, -6, 7), of(-7, 5, -6, 7), of(7, -5, 6, -7));
        dueFreed("a cubic", cubic, of(0, 1), of(1), of(-1));
        dueDegrees("a cubic", cubic, 4, 1);
        // X and Y are alike but for the sign, W differs in t^4 alone
        EliminateLoci other = row(of(7, -6, 5, -7, 6), of(-7, 6, -5, 7, -6), of(7, -6, 5, -7, 7));
        dueFreed("two alike", other, of(7, -6, 5, -7, 6), of(-7, 6, -5, 7, -6), of(7, -6, 5, -7, 7));
    }

    private static void divisorOfDegreeFour() {
        EliminateLoci sevens = row(of(7, -7, 7, -7, 7), of(-7, 7, -7, 7, -7), of(7, -7, 7, -7, 7));
        dueFreed("sevens", sevens, of(7), of(-7), of(7));
        dueDegrees("sevens", sevens, 4, 0);
        dueNoCurve("sevens", sevens, 0);
        // (x - y + 1)^6
        dueCurve("sevens", sevens, 1, 1, 6, 1, 0, 1, 0, 1, -1, 0, 0, 1);
        EliminateLoci primitive = row(of(7, -6, 5, -4, -3), of(), of(-7, 6, -5, 4, 3));
        dueFreed("the highest below 0", primitive, of(-1), of(), of(1));
        dueDegrees("the highest below 0", primitive, 4, 0);
        dueCurve("the highest below 0", primitive, 1, 1, 6, 1, 0, 1, 0, 0, -1);
        due("touches: one line for all t", sevens.touches(1, 1), NO);
        due("at", sevens.at(9, -9, 1, -1, 1), 1);
    }

    private static void greatestValues() {
        EliminateLoci loci = row(of(7, 7, 7, 7, 7), of(-7, 7, -7, 7, -7), of(1));
        dueValues("9 / 8", loci, 9, 8, 7 * (6561 + 5832 + 5184 + 4608 + 4096),
                -7 * (6561 - 5832 + 5184 - 4608 + 4096), 4096);
        dueValues("-9 / 8", loci, -9, 8, 7 * (6561 - 5832 + 5184 - 4608 + 4096),
                -7 * (6561 + 5832 + 5184 + 4608 + 4096), 4096);
        // 7 and 9^4 go out of all
        dueValues("9 / 9", row(of(7, 7, 7, 7, 7), of(0, 7), of(-7)), 9, 9, 5, 1, -1);
        due("at", row(of(7, 7, 7, 7, 7), of(7), of(7)).at(9, 9, 5, 1, 1), 1);
        due("at, near", row(of(7, 7, 7, 7, 7), of(7), of(7)).at(9, 8, 5, 1, 1), 0);
    }

    // ---- THE LOCUS

    private static void locusOfSevens() {
        dueCurve("sevens", sevens(), 0, 4, 1, 4, 0, 1, 3, 1, 3, 2, 2, 2, 0, 4, -1, 3, 0, 1, 2, 1, 1, 1, 2, 2,
                2, 0, -1, 1, 1, 1, 0, 2, 2, 1, 0, 1, 0, 1, 3, 0, 0, 1);
        dueSide("sevens", sevens(), 0, -20, -20, 9, 1);
        dueSide("sevens", sevens(), 0, -20, 20, 9, -1);
        // its places at 0 and beyond all t
        dueSide("sevens", sevens(), 0, -1, -1, 1, 0);
        dueSide("sevens", sevens(), 0, -9, 9, 9, 0);
    }

    private static void greatestLocus() {
        dueCurve("above an int", greatLocus(), 0, 4, 1,
                4, 0, 733392653L, 3, 1, -3177895L, 2, 2, -11121824L, 1, 3, 35840L, 0, 4, 92800L,
                3, 0, 2944934545L, 2, 1, -3212881L, 1, 2, -22185240L, 0, 3, -35840L,
                2, 0, 4423191829L, 1, 1, 3212881L, 0, 2, -11121824L,
                1, 0, 2944934545L, 0, 1, 3177895L, 0, 0, 733392653L);
        for (int u = -9; u <= 9; u++) {
            due("follows(" + u + ", 8)", greatLocus().follows(u, 8), 1);
        }
    }

    private static void sidesOfGreatestLocus() {
        EliminateLoci loci = greatLocus();
        due("at 0", loci.at(0, 1, -7, 7, 6), 1);
        due("beyond", loci.at(1, 0, -6, 7, 7), 1);
        dueSide("at 0", loci, 0, -7, 7, 6, 0);
        dueSide("beyond", loci, 0, -6, 7, 7, 0);
        dueSide("785, of terms of 4e9", loci, 0, -1, 1, 1, 1);
        dueSide("-1e9, of terms of 3e13", loci, 0, -10, 13, 9, -1);
        dueSide("5e14", loci, 0, 20, -2, 9, 1);
        dueSide("corner", loci, 0, -20, -20, 9, 1);
        dueSide("corner", loci, 0, 20, 20, 1, 1);
    }

    // ---- THE ENVELOPE

    private static void envelopeOfSevens() {
        dueCurve("sevens", sevens(), 1, 6, 1,
                6, 0, 331, 5, 1, 518, 4, 2, -523, 3, 3, 260, 2, 4, 1285, 1, 5, -650, 0, 6, 507,
                5, 0, -1030, 4, 1, -1714, 3, 2, 404, 2, 3, 28, 1, 4, -2222, 0, 5, -650,
                4, 0, 1397, 3, 1, 1196, 2, 2, -18, 1, 3, 28, 0, 4, 1285,
                3, 0, -1396, 2, 1, 1196, 1, 2, 404, 0, 3, 260,
                2, 0, 1397, 1, 1, -1714, 0, 2, -523, 1, 0, -1030, 0, 1, 518, 0, 0, 331);
    }

    private static void greatestEnvelope() {
        dueCurve("above an int", greatEnvelope(), 1, 6, 1,
                6, 0, 58798383L, 5, 1, 373727900L, 4, 2, 1012379200L, 3, 3, 1374434614L, 2, 4, 951785212L,
                1, 5, 313753076L, 0, 6, 38941819L,
                5, 0, -360666852L, 4, 1, -1908675342L, 3, 2, -4111125676L, 2, 3, -4157332872L,
                1, 4, -1907176726L, 0, 5, -312744656L,
                4, 0, 921737740L, 3, 1, 3898048084L, 2, 2, 6259748579L, 1, 3, 4192066424L, 0, 4, 955655624L,
                3, 0, -1256267422L, 2, 1, -3979486112L, 1, 2, -4235790104L, 0, 3, -1409205210L,
                2, 0, 963071396L, 1, 1, 2030894866L, 0, 2, 1074787364L,
                1, 0, -393747536L, 0, 1, -414509228L, 0, 0, 67074287L);
        for (int u = -9; u <= 9; u++) {
            due("touches(" + u + ", 8)", greatEnvelope().touches(u, 8), 1);
        }
    }

    private static void sidesOfGreatestEnvelope() {
        EliminateLoci loci = greatEnvelope();
        dueSide("9e17", loci, 1, -20, -20, 9, 1);
        dueSide("-6e11, of terms of 7e16", loci, 1, 20, -19, 1, -1);
        dueSide("-6e11, of terms of 7e16", loci, 1, -19, 20, 1, -1);
        dueSide("256000, of terms of 4e14", loci, 1, 8, 1, 9, 1);
        dueSide("-4, of terms of 1e9", loci, 1, 1, 0, 1, -1);
        dueSide("0", loci, 1, 0, 1, 1, 0);
        dueSide("0", loci, 1, 0, 9, 9, 0);
        dueSide("corner", loci, 1, 20, 20, 9, 1);
        dueSide("corner", loci, 1, 20, -20, 9, 1);
        dueSide("corner below 0", greatLocus(), 1, 20, 20, 9, -1);
        dueSide("-1125040, of terms of 1e14", greatLocus(), 1, 8, 1, 7, -1);
    }

    // ---- powers

    private static void greatestPowers() {
        // a line's places by t^4: from (7, -7, 6) to (-6, 7, 7)
        dueCurve("four times", row(of(7, 0, 0, 0, -6), of(-7, 0, 0, 0, 7), of(6, 0, 0, 0, 7)), 0, 1, 4,
                1, 0, 91, 0, 1, 85, 0, 0, -7);
        // (7 x - 6 y + 5) (t^4 - t^3 + t^2 - t + 1)
        dueCurve("six times", row(of(7, -7, 7, -7, 7), of(-6, 6, -6, 6, -6), of(5, -5, 5, -5, 5)), 1, 1, 6,
                1, 0, 7, 0, 1, -6, 0, 0, 5);
        // (7 x - 6 y + 5) t^4 + 6 x + 7 y - 7
        dueCurve("three times", row(of(6, 0, 0, 0, 7), of(7, 0, 0, 0, -6), of(-7, 0, 0, 0, 5)), 1, 2, 3,
                2, 0, 42, 1, 1, 13, 0, 2, -42, 1, 0, -19, 0, 1, 77, 0, 0, -35);
    }

    private static void smallAfterLarge() {
        EliminateLoci loci = greatEnvelope();
        due("large", loci.trace(0), 4);
        due("large", loci.trace(1), 6);
        set(loci, of(0, 1), of(0, 0, 1), of(1));
        dueCurve("parabola", loci, 0, 2, 1, 2, 0, 1, 0, 1, -1);
        dueCurve("parabola", loci, 1, 2, 1, 2, 0, 1, 0, 1, -4);
        dueFreed("parabola", loci, of(0, 1), of(0, 0, 1), of(1));
        set(loci, of(0, 1), of(), of(1));
        dueCurve("line", loci, 0, 1, 1, 0, 1, 1);
        dueNoCurve("line", loci, 1);
    }

    // ---- 512 calls

    private static void manyAskings() {
        EliminateLoci loci = greatEnvelope();
        int calls = 15;
        while (calls + 7 <= MOST_CALLS) {
            due("trace after " + calls, loci.trace(1), 6);
            due("times after " + calls, loci.times(0), 1);
            due("coefficient after " + calls, loci.coefficient(1, 2, 2), 6259748579L);
            due("side after " + calls, loci.side(1, 20, -19, 1), -1);
            due("follows after " + calls, loci.follows(9, -8), 1);
            due("touches after " + calls, loci.touches(-9, 8), 1);
            due("freed after " + calls, loci.freed(0, 4), 7);
            calls += 7;
        }
        for (; calls < MOST_CALLS; calls++) {
            due("degree after " + calls, loci.degree(1), 4);
        }
    }

    private static void manyChanges() {
        // W's t^3 is 7 or 0 by turns; each asking has a curve to find
        EliminateLoci loci = greatLocus();
        long withIt = greatLocus().coefficient(0, 2, 0);
        EliminateLoci other = greatLocus();
        other.term(2, 3, 0);
        long without = other.coefficient(0, 2, 0);
        due("they differ", withIt == without ? 1 : 0, 0);
        for (int calls = 15; calls + 2 <= MOST_CALLS; calls += 2) {
            boolean even = calls % 4 == 3;
            due("term after " + calls, loci.term(2, 3, even ? 0 : 7), even ? 7 : 0);
            due("coefficient after " + calls, loci.coefficient(0, 2, 0), even ? without : withIt);
        }
        due("call 512", loci.trace(1), 6);
    }

    private static void manyRows() {
        EliminateLoci loci = new EliminateLoci();
        for (int round = 0; round < MOST_CALLS / 16; round++) {
            int top = 2 + round % 3;
            due("term", loci.term(0, 1, 1), 0);
            due("term", loci.term(1, top, 1), 0);
            due("term", loci.term(2, 0, 1), 0);
            due("degree", loci.degree(0), top);
            due("locus of y = x^" + top, loci.trace(0), top);
            due("x^" + top, loci.coefficient(0, top, 0), 1);
            due("y", loci.coefficient(0, 0, 1), -1);
            due("times", loci.times(0), 1);
            due("at", loci.at(-2, 1, -2, top == 3 ? -8 : 1 << top, 1), 1);
            due("side", loci.side(0, 2, 1 << top, 1), 0);
            due("follows", loci.follows(9, 7), 1);
            due("beyond", loci.follows(1, 0), NO);
            due("envelope of x t + y t^" + top + " + 1", loci.trace(1), top == 2 ? 2 : top == 3 ? 4 : 6);
            due("touches", loci.touches(1, 2), 1);
            due("refused", loci.term(0, 1, 8), BAD_TERM);
            due("clear", loci.clear(), 3);
        }
    }

    private static void manyRefusals() {
        EliminateLoci loci = circle();
        for (int calls = 15; calls < MOST_CALLS - 3; calls++) {
            due("refused", loci.term(calls % 3, 5 + calls, 1), BAD_TERM);
        }
        due("call 510", loci.trace(0), 2);
        due("call 511", loci.side(1, 3, 4, 5), 0);
        due("call 512", loci.clear(), 5);
    }
}
