import java.math.BigInteger;
import java.util.Map;
import java.util.TreeMap;

/**
 * Many rows against a second way to the same answers, in numbers of any size: Sylvester's
 * determinant, Euclid's algorithm in fractions, and powers told by the values at many places.
 */
public final class OracleTest {
    private static final int ROWS = 6000;
    private static int wrong = 0;
    private static long seed = 20261116;

    public static void main(String[] args) {
        for (int kind = 0; kind < 8; kind++) {
            for (int n = 0; n < ROWS / 16; n++) {
                // two rows, one after the other: nothing of the first may be left in the second's
                EliminateLoci loci = new EliminateLoci();
                check(loci, rowOf(kind));
                check(loci, rowOf((kind + n) % 8));
            }
        }
        System.out.println(wrong == 0 ? "the oracle agrees" : wrong + " answers differ from the oracle's");
        if (wrong != 0) {
            System.exit(1);
        }
    }

    private static int pick(int low, int high) {
        seed = seed * 6364136223846793005L + 1442695040888963407L;
        return low + (int) ((seed >>> 33) % (high - low + 1));
    }

    // ---- rows of several kinds

    private static int[][] rowOf(int kind) {
        int[][] row = new int[3][5];
        int most = kind == 1 ? 7 : kind == 2 ? 1 : 3;
        int top = pick(kind == 1 ? 4 : 0, 4);
        for (int[] part : row) {
            for (int i = 0; i <= top; i++) {
                part[i] = kind == 1 ? (pick(0, 1) == 0 ? 7 : -7) : pick(-most, most);
                if (kind == 3 && pick(0, 2) > 0) {
                    part[i] = 0;
                }
            }
        }
        if (kind == 0) {
            return randomRow();
        }
        if (kind == 4 || kind == 5) {
            return withFactor(kind == 4 ? 1 : 2);
        }
        if (kind == 6) {
            return ofSquares();
        }
        return kind == 7 ? likeLines() : row;
    }

    private static int[][] randomRow() {
        int[][] row = new int[3][5];
        for (int[] part : row) {
            for (int i = 0; i < 5; i++) {
                part[i] = pick(-7, 7);
            }
        }
        return row;
    }

    private static int[][] withFactor(int degree) {
        while (true) {
            int[] factor = new int[degree + 1];
            for (int i = 0; i <= degree; i++) {
                factor[i] = pick(-2, 2);
            }
            int[][] row = new int[3][5];
            boolean fits = true;
            for (int[] part : row) {
                for (int i = 0; i + degree < 5; i++) {
                    int c = pick(-2, 2);
                    for (int k = 0; k <= degree; k++) {
                        part[i + k] += c * factor[k];
                    }
                }
                for (int c : part) {
                    fits &= Math.abs(c) <= 7;
                }
            }
            if (fits) {
                return row;
            }
        }
    }

    private static int[][] ofSquares() {
        int[][] row = new int[3][5];
        for (int[] part : row) {
            for (int i = 0; i < 5; i += 2) {
                part[i] = pick(-4, 4);
            }
        }
        return row;
    }

    /** Two parts that are multiples of one polynomial: curves that are lines, several times. */
    private static int[][] likeLines() {
        int[][] row = new int[3][5];
        int[] times = {pick(-2, 2), pick(-2, 2), pick(-1, 1)};
        int[] plus = {pick(-1, 1), pick(-1, 1), pick(0, 1)};
        for (int i = 0; i < 5; i++) {
            int c = pick(-2, 2);
            for (int part = 0; part < 3; part++) {
                row[part][i] = times[part] * c + (i == 0 ? plus[part] : 0);
            }
        }
        return row;
    }

    // ---- polynomials in x and y, by "i j" of x^i y^j

    private static final class Poly {
        final Map<Integer, BigInteger> terms = new TreeMap<>();

        static Poly of(long byX, long byY, long constant) {
            Poly p = new Poly();
            p.add(1, 0, BigInteger.valueOf(byX));
            p.add(0, 1, BigInteger.valueOf(byY));
            p.add(0, 0, BigInteger.valueOf(constant));
            return p;
        }

        void add(int i, int j, BigInteger c) {
            BigInteger sum = terms.getOrDefault(100 * i + j, BigInteger.ZERO).add(c);
            if (sum.signum() == 0) {
                terms.remove(100 * i + j);
            } else {
                terms.put(100 * i + j, sum);
            }
        }

        Poly plusProduct(Poly a, Poly b, int sign) {
            for (Map.Entry<Integer, BigInteger> s : a.terms.entrySet()) {
                for (Map.Entry<Integer, BigInteger> t : b.terms.entrySet()) {
                    int key = s.getKey() + t.getKey();
                    BigInteger c = s.getValue().multiply(t.getValue());
                    add(key / 100, key % 100, sign < 0 ? c.negate() : c);
                }
            }
            return this;
        }

        int degree() {
            int most = -1;
            for (int key : terms.keySet()) {
                most = Math.max(most, key / 100 + key % 100);
            }
            return most;
        }

        Poly primitive() {
            BigInteger content = BigInteger.ZERO;
            int first = -1;
            for (Map.Entry<Integer, BigInteger> t : terms.entrySet()) {
                content = content.gcd(t.getValue());
                int rank = 1000 * (t.getKey() / 100 + t.getKey() % 100) + t.getKey() / 100;
                first = Math.max(first, rank);
            }
            int lead = 100 * (first % 1000) + first / 1000 - first % 1000;
            if (terms.get(lead).signum() < 0) {
                content = content.negate();
            }
            Poly p = new Poly();
            for (Map.Entry<Integer, BigInteger> t : terms.entrySet()) {
                p.terms.put(t.getKey(), t.getValue().divide(content));
            }
            return p;
        }

        /** At (p / s, q / s), times s to the power of the degree. */
        BigInteger scaledAt(BigInteger p, BigInteger q, BigInteger s) {
            BigInteger sum = BigInteger.ZERO;
            int degree = degree();
            for (Map.Entry<Integer, BigInteger> t : terms.entrySet()) {
                int i = t.getKey() / 100;
                int j = t.getKey() % 100;
                sum = sum.add(t.getValue().multiply(p.pow(i)).multiply(q.pow(j)).multiply(s.pow(degree - i - j)));
            }
            return sum;
        }
    }

    /** Sylvester's determinant of two polynomials of the same degree, by rising powers. */
    private static Poly sylvester(Poly[] a, Poly[] b) {
        int m = a.length - 1;
        Poly[][] matrix = new Poly[2 * m][2 * m];
        for (int line = 0; line < 2 * m; line++) {
            Poly[] source = line < m ? a : b;
            for (int column = 0; column < 2 * m; column++) {
                int i = column - (line < m ? line : line - m);
                matrix[line][column] = i < 0 || i > m ? new Poly() : source[m - i];
            }
        }
        return determinant(matrix, 0, (1 << 2 * m) - 1, new TreeMap<>());
    }

    private static Poly determinant(Poly[][] matrix, int line, int columns, Map<Integer, Poly> known) {
        if (line == matrix.length) {
            return Poly.of(0, 0, 1);
        }
        if (!known.containsKey(columns)) {
            Poly sum = new Poly();
            int sign = 1;
            for (int column = 0; column < matrix.length; column++) {
                if ((columns >> column & 1) == 1) {
                    if (!matrix[line][column].terms.isEmpty()) {
                        Poly minor = determinant(matrix, line + 1, columns ^ 1 << column, known);
                        sum.plusProduct(matrix[line][column], minor, sign);
                    }
                    sign = -sign;
                }
            }
            known.put(columns, sum);
        }
        return known.get(columns);
    }

    // ---- polynomials of t in fractions, as pairs

    private static BigInteger[] primitiveOf(BigInteger[] p) {
        BigInteger content = BigInteger.ZERO;
        BigInteger lead = BigInteger.ZERO;
        for (BigInteger c : p) {
            content = content.gcd(c);
            lead = c.signum() == 0 ? lead : c;
        }
        BigInteger[] q = p.clone();
        for (int i = 0; i < q.length && content.signum() != 0; i++) {
            q[i] = q[i].divide(lead.signum() < 0 ? content.negate() : content);
        }
        return q;
    }

    private static int top(BigInteger[] p) {
        int top = -1;
        for (int i = 0; i < p.length; i++) {
            top = p[i].signum() == 0 ? top : i;
        }
        return top;
    }

    private static BigInteger[] gcd(BigInteger[] a, BigInteger[] b) {
        BigInteger[] high = a.clone();
        BigInteger[] low = b.clone();
        while (top(low) >= 0) {
            BigInteger[] rest = high.clone();
            while (top(rest) >= top(low)) {
                int shift = top(rest) - top(low);
                BigInteger lead = rest[top(rest)];
                BigInteger by = low[top(low)];
                BigInteger[] next = rest.clone();
                for (int i = 0; i < 5; i++) {
                    BigInteger away = i < shift ? BigInteger.ZERO : low[i - shift];
                    next[i] = rest[i].multiply(by).subtract(away.multiply(lead));
                }
                rest = next;
            }
            high = low;
            low = rest;
        }
        return primitiveOf(high);
    }

    private static BigInteger[] quotient(BigInteger[] p, BigInteger[] by) {
        BigInteger[] rest = p.clone();
        BigInteger[] result = new BigInteger[5];
        java.util.Arrays.fill(result, BigInteger.ZERO);
        int low = top(by);
        while (top(rest) >= low) {
            int shift = top(rest) - low;
            BigInteger[] parts = rest[top(rest)].divideAndRemainder(by[low]);
            same("remainder of the oracle", parts[1], BigInteger.ZERO);
            result[shift] = parts[0];
            for (int i = 0; i <= low; i++) {
                rest[i + shift] = rest[i + shift].subtract(by[i].multiply(parts[0]));
            }
        }
        same("remainder of the oracle", BigInteger.valueOf(top(rest)), BigInteger.valueOf(-1));
        return result;
    }

    // ---- one row

    private static void same(String what, BigInteger got, BigInteger want) {
        if (!got.equals(want)) {
            wrong++;
            if (wrong < 50) {
                System.out.println(what + " is " + got + ", due is " + want);
            }
        }
    }

    private static void same(String what, long got, long want) {
        same(what, BigInteger.valueOf(got), BigInteger.valueOf(want));
    }

    private static void check(EliminateLoci loci, int[][] row) {
        String name = java.util.Arrays.deepToString(row);
        BigInteger[][] big = new BigInteger[3][5];
        for (int which = 0; which < 3; which++) {
            for (int i = 0; i < 5; i++) {
                loci.term(which, i, row[which][i]);
                big[which][i] = BigInteger.valueOf(row[which][i]);
            }
        }
        BigInteger[] common = gcd(gcd(big[0], big[1]), big[2]);
        BigInteger[][] bare = new BigInteger[3][5];
        for (int which = 0; which < 3; which++) {
            bare[which] = top(common) >= 1 ? quotient(big[which], common) : big[which];
            for (int i = 0; i < 5; i++) {
                same(name + " freed", BigInteger.valueOf(loci.freed(which, i)), bare[which][i]);
            }
        }
        int whole = highest(big);
        int rest = highest(bare);
        same(name + " N", loci.degree(0), whole);
        same(name + " n", loci.degree(1), rest);
        same(name + " N - n", loci.degree(2), whole - rest);
        Poly locus = checkCurve(name + " locus", loci, 0, locusOf(bare, rest));
        Poly envelope = checkCurve(name + " envelope", loci, 1, envelopeOf(row, whole));
        for (int n = 0; n < 6; n++) {
            checkParameter(name, loci, row, whole, locus, envelope);
        }
    }

    private static int highest(BigInteger[][] row) {
        return Math.max(0, Math.max(top(row[0]), Math.max(top(row[1]), top(row[2]))));
    }

    private static Poly locusOf(BigInteger[][] bare, int n) {
        if (n == 0 || top(bare[2]) < 0) {
            return new Poly();
        }
        Poly[] a = new Poly[n + 1];
        Poly[] b = new Poly[n + 1];
        for (int i = 0; i <= n; i++) {
            a[i] = Poly.of(-bare[2][i].longValue(), 0, bare[0][i].longValue());
            b[i] = Poly.of(0, -bare[2][i].longValue(), bare[1][i].longValue());
        }
        return sylvester(a, b);
    }

    private static Poly envelopeOf(int[][] row, int whole) {
        if (whole < 2) {
            return new Poly();
        }
        Poly[] a = new Poly[whole];
        Poly[] b = new Poly[whole];
        for (int i = 0; i < whole; i++) {
            int up = i + 1;
            int down = whole - i;
            a[i] = Poly.of(up * row[0][up], up * row[1][up], up * row[2][up]);
            b[i] = Poly.of(down * row[0][i], down * row[1][i], down * row[2][i]);
        }
        return sylvester(a, b);
    }

    /** The curve's root as the class tells it, null if there is none. */
    private static Poly checkCurve(String name, EliminateLoci loci, int sort, Poly eliminant) {
        if (eliminant.degree() < 1) {
            same(name + " trace", loci.trace(sort), EliminateLoci.NO);
            same(name + " times", loci.times(sort), EliminateLoci.NO);
            same(name + " coefficient", loci.coefficient(sort, 0, 0), 0);
            same(name + " side", loci.side(sort, 1, 1, 1), -8);
            return null;
        }
        Poly whole = eliminant.primitive();
        Poly root = new Poly();
        for (int i = 0; i <= 6; i++) {
            for (int j = 0; j <= 6; j++) {
                root.add(i, j, BigInteger.valueOf(loci.coefficient(sort, i, j)));
            }
        }
        same(name + " trace", loci.trace(sort), root.degree());
        int times = loci.times(sort);
        same(name + " degrees", (long) root.degree() * times, whole.degree());
        Poly power = Poly.of(0, 0, 1);
        for (int k = 0; k < times; k++) {
            power = new Poly().plusProduct(power, root, 1);
        }
        same(name + " power", power.terms.equals(whole.terms) ? 1 : 0, 1);
        if (root.degree() < 1) {
            same(name + " root's degree", root.degree(), 1);
            return null;
        }
        same(name + " primitive", root.primitive().terms.equals(root.terms) ? 1 : 0, 1);
        for (int prime : new int[] {2, 3, 5}) {
            same(name + " is no power of " + prime, isPowerEverywhere(root, prime) ? 1 : 0, 0);
        }
        for (int n = 0; n < 8; n++) {
            int p = n == 0 ? 20 : pick(-20, 20);
            int q = n == 0 ? -20 : pick(-20, 20);
            int s = n == 0 ? 1 : pick(1, 9);
            same(name + " side", loci.side(sort, p, q, s), root.scaledAt(big(p), big(q), big(s)).signum());
        }
        return root;
    }

    private static BigInteger big(long n) {
        return BigInteger.valueOf(n);
    }

    /** A power of a polynomial has powers of whole numbers as its values at all whole places. */
    private static boolean isPowerEverywhere(Poly p, int prime) {
        for (int x = -7; x <= 7; x++) {
            for (int y = -7; y <= 7; y++) {
                if (!isPower(p.scaledAt(big(x), big(y), BigInteger.ONE), prime)) {
                    return false;
                }
            }
        }
        return true;
    }

    private static boolean isPower(BigInteger n, int prime) {
        if (n.signum() < 0 && prime == 2) {
            return false;
        }
        BigInteger size = n.abs();
        BigInteger low = BigInteger.ZERO;
        BigInteger high = BigInteger.ONE.shiftLeft(size.bitLength() / prime + 1);
        while (low.compareTo(high) < 0) {
            BigInteger middle = low.add(high).add(BigInteger.ONE).shiftRight(1);
            if (middle.pow(prime).compareTo(size) <= 0) {
                low = middle;
            } else {
                high = middle.subtract(BigInteger.ONE);
            }
        }
        return low.pow(prime).equals(size);
    }

    private static BigInteger valueOf(int[] part, int u, int v, int whole) {
        BigInteger sum = BigInteger.ZERO;
        for (int i = 0; i <= whole; i++) {
            sum = sum.add(big(part[i]).multiply(big(u).pow(i)).multiply(big(v).pow(whole - i)));
        }
        return sum;
    }

    /** The derivative by u, as coefficients of one degree less. */
    private static int[] slope(int[] part, int whole, boolean byU) {
        int[] result = new int[5];
        for (int i = 0; i < whole; i++) {
            result[i] = byU ? (i + 1) * part[i + 1] : (whole - i) * part[i];
        }
        return result;
    }

    private static void checkParameter(String name, EliminateLoci loci, int[][] row, int whole,
            Poly locus, Poly envelope) {
        int u = pick(-9, 9);
        int v = pick(-9, 9);
        if (u == 0 && v == 0) {
            v = 1;
        }
        String where = name + " at " + u + " / " + v;
        BigInteger[] values = new BigInteger[3];
        BigInteger common = BigInteger.ZERO;
        for (int part = 0; part < 3; part++) {
            values[part] = valueOf(row[part], u, v, whole);
            common = common.gcd(values[part]);
        }
        for (int part = 0; part < 3; part++) {
            BigInteger want = common.signum() == 0 ? BigInteger.ZERO : values[part].divide(common);
            same(where + " value", big(loci.value(u, v, part)), want);
        }
        long follows = EliminateLoci.NO;
        if (locus != null && values[2].signum() != 0) {
            follows = locus.scaledAt(values[0], values[1], values[2]).signum() == 0 ? 1 : 0;
        }
        same(where + " follows", loci.follows(u, v), follows);
        same(where + " touches", loci.touches(u, v), touches(row, u, v, whole, envelope));
        checkAt(where, loci, u, v, values);
    }

    private static long touches(int[][] row, int u, int v, int whole, Poly envelope) {
        if (envelope == null) {
            return EliminateLoci.NO;
        }
        BigInteger[] a = new BigInteger[3];
        BigInteger[] b = new BigInteger[3];
        for (int part = 0; part < 3; part++) {
            a[part] = valueOf(slope(row[part], whole, true), u, v, whole - 1);
            b[part] = valueOf(slope(row[part], whole, false), u, v, whole - 1);
        }
        BigInteger w = a[0].multiply(b[1]).subtract(a[1].multiply(b[0]));
        if (w.signum() == 0) {
            return EliminateLoci.NO;
        }
        BigInteger x = a[1].multiply(b[2]).subtract(a[2].multiply(b[1]));
        BigInteger y = a[2].multiply(b[0]).subtract(a[0].multiply(b[2]));
        return envelope.scaledAt(x, y, w).signum() == 0 ? 1 : 0;
    }

    private static void checkAt(String where, EliminateLoci loci, int u, int v, BigInteger[] values) {
        int s = pick(1, 9);
        int p = pick(-20, 20);
        int q = pick(-20, 20);
        if (values[2].signum() != 0) {
            // where the mover's place can be told by such numbers, it is asked for
            BigInteger[] x = values[0].multiply(big(s)).divideAndRemainder(values[2]);
            BigInteger[] y = values[1].multiply(big(s)).divideAndRemainder(values[2]);
            boolean whole = x[1].signum() == 0 && y[1].signum() == 0;
            if (whole && x[0].abs().compareTo(big(20)) <= 0 && y[0].abs().compareTo(big(20)) <= 0) {
                same(where + " at", loci.at(u, v, x[0].intValue(), y[0].intValue(), s), 1);
            }
        }
        boolean there = values[2].signum() != 0
                && values[0].multiply(big(s)).equals(values[2].multiply(big(p)))
                && values[1].multiply(big(s)).equals(values[2].multiply(big(q)));
        same(where + " at", loci.at(u, v, p, q, s), there ? 1 : 0);
    }
}
