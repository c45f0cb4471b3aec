import java.util.Arrays;

/**
 * Loci of movers and envelopes of moving lines, as equations in whole numbers.
 * A row in hand (three polynomials X, Y, W of a parameter t) tells both a mover
 * at (X / W, Y / W) and the lines X x + Y y + W = 0.
 */
public final class EliminateLoci {
    public static final int BAD = -1, NO = -2;

    private static final int BAD_TERM = -100, BAD_NUMBER = -1000000, BAD_PLACE = -9, NO_SIDE = -8;
    private static final int PARTS = 3, POWERS = 5;
    private static final int X = 0, Y = 1, W = 2;
    private static final int LOCUS = 0, ENVELOPE = 1;
    private static final int MOST_COEFFICIENT = 7, MOST_PARAMETER = 9, MOST_PLACE = 20, MOST_SHARE = 9;
    private static final int MOST_DEGREE = 6, CELLS = 28;
    private static final int MOST_SIZE = 4;
    private static final int EUCLID_STEPS = 128;

    private final Row row;
    private final Row freedRow;
    private final Divisor divisor;
    private final Eliminant eliminant;
    private final RootFinder finder;
    private final Curve locus;
    private final Curve envelope;
    private final long[] spot;
    private boolean freedKnown;

    public EliminateLoci() {
        row = new Row();
        freedRow = new Row();
        divisor = new Divisor();
        eliminant = new Eliminant();
        finder = new RootFinder();
        locus = new Curve();
        envelope = new Curve();
        spot = new long[PARTS];
        freedKnown = false;
    }

    public int term(int which, int i, int v) {
        if (!isPart(which) || !isPower(i) || !isWithin(v, MOST_COEFFICIENT)) {
            return BAD_TERM;
        }
        int before = (int) row.parts[which][i];
        if (before != v) {
            row.parts[which][i] = v;
            forget();
        }
        return before;
    }

    public int clear() {
        int count = row.countAndErase();
        forget();
        return count;
    }

    public int degree(int what) {
        if (what < 0 || what > 2) {
            return BAD;
        }
        int whole = row.highestPower();
        if (what == 0) {
            return whole;
        }
        int rest = freeRow().highestPower();
        return what == 1 ? rest : whole - rest;
    }

    public int freed(int which, int i) {
        if (!isPart(which) || !isPower(i)) {
            return BAD_NUMBER;
        }
        return (int) freeRow().parts[which][i];
    }

    public int value(int u, int v, int part) {
        if (!isParameter(u, v) || !isPart(part)) {
            return BAD_NUMBER;
        }
        moveTo(u, v);
        long shared = commonOf(commonOf(spot[X], spot[Y]), spot[W]);
        return shared == 0 ? 0 : (int) (spot[part] / shared);
    }

    public int trace(int sort) {
        if (!isSort(sort)) {
            return BAD;
        }
        Curve curve = curveOf(sort);
        return curve.found ? curve.root.bound : NO;
    }

    public int times(int sort) {
        if (!isSort(sort)) {
            return BAD;
        }
        Curve curve = curveOf(sort);
        return curve.found ? curve.power : NO;
    }

    public long coefficient(int sort, int i, int j) {
        if (!isSort(sort) || i < 0 || i > MOST_DEGREE || j < 0 || j > MOST_DEGREE) {
            return 0;
        }
        Curve curve = curveOf(sort);
        return curve.found && i + j <= MOST_DEGREE ? curve.root.cells[slotOf(i + j, j)] : 0;
    }

    public int side(int sort, int p, int q, int s) {
        if (!isSort(sort) || !isPlace(p, q, s)) {
            return BAD_PLACE;
        }
        Curve curve = curveOf(sort);
        if (!curve.found) {
            return NO_SIDE;
        }
        long scaled = curve.root.scaledValue(p, q, s);
        return scaled < 0 ? -1 : scaled > 0 ? 1 : 0;
    }

    public int at(int u, int v, int p, int q, int s) {
        if (!isParameter(u, v) || !isPlace(p, q, s)) {
            return BAD_PLACE;
        }
        moveTo(u, v);
        boolean there = spot[W] != 0 && spot[X] * s == spot[W] * p && spot[Y] * s == spot[W] * q;
        return there ? 1 : 0;
    }

    /**
     * Where W is not 0, the parameter itself is a common zero of X - x W and Y - y W at the
     * mover's place: the resultant is 0 there, and so is its root. So 0 is never the answer.
     */
    public int follows(int u, int v) {
        if (!isParameter(u, v)) {
            return BAD;
        }
        moveTo(u, v);
        return spot[W] != 0 && curveOf(LOCUS).found ? 1 : NO;
    }

    /**
     * Where both derivatives are 0, the parameter itself is their common zero: the discriminant
     * is 0 there, and so is its root. So 0 is never the answer; what is left to look at is
     * whether the derivatives are two lines that meet in one place.
     */
    public int touches(int u, int v) {
        if (!isParameter(u, v)) {
            return BAD;
        }
        if (!curveOf(ENVELOPE).found) {
            return NO;
        }
        int top = row.highestPower();
        long cross = slopeByU(X, u, v, top) * slopeByV(Y, u, v, top)
                - slopeByU(Y, u, v, top) * slopeByV(X, u, v, top);
        return cross != 0 ? 1 : NO;
    }

    private static boolean isPart(int which) {
        return which >= 0 && which < PARTS;
    }

    private static boolean isPower(int i) {
        return i >= 0 && i < POWERS;
    }

    private static boolean isSort(int sort) {
        return sort == LOCUS || sort == ENVELOPE;
    }

    private static boolean isWithin(int number, int most) {
        return number >= -most && number <= most;
    }

    private static boolean isParameter(int u, int v) {
        return isWithin(u, MOST_PARAMETER) && isWithin(v, MOST_PARAMETER) && (u != 0 || v != 0);
    }

    private static boolean isPlace(int p, int q, int s) {
        return isWithin(p, MOST_PLACE) && isWithin(q, MOST_PLACE) && s >= 1 && s <= MOST_SHARE;
    }

    /** What was found for the row before is not true of a changed row. */
    private void forget() {
        freedKnown = false;
        locus.known = false;
        envelope.known = false;
    }

    private Row freeRow() {
        if (!freedKnown) {
            divisor.free(row, freedRow);
            freedKnown = true;
        }
        return freedRow;
    }

    private Curve curveOf(int sort) {
        Curve curve = sort == LOCUS ? locus : envelope;
        if (!curve.known) {
            int size = sort == LOCUS ? eliminant.takeMover(freeRow()) : eliminant.takeLines(row);
            curve.found = size > 0 && finder.findRoot(eliminant.resultant(size), curve);
            curve.known = true;
        }
        return curve;
    }

    private void moveTo(int u, int v) {
        int top = row.highestPower();
        for (int part = 0; part < PARTS; part++) {
            long sum = 0;
            for (int i = 0; i <= top; i++) {
                sum += row.parts[part][i] * powerOf(u, i) * powerOf(v, top - i);
            }
            spot[part] = sum;
        }
    }

    private long slopeByU(int part, int u, int v, int top) {
        long sum = 0;
        for (int i = 1; i <= top; i++) {
            sum += i * row.parts[part][i] * powerOf(u, i - 1) * powerOf(v, top - i);
        }
        return sum;
    }

    private long slopeByV(int part, int u, int v, int top) {
        long sum = 0;
        for (int i = 0; i < top; i++) {
            sum += (top - i) * row.parts[part][i] * powerOf(u, i) * powerOf(v, top - 1 - i);
        }
        return sum;
    }

    private static long powerOf(long base, int exponent) {
        long product = 1;
        for (int i = 0; i < exponent; i++) {
            product *= base;
        }
        return product;
    }

    /** The greatest common divisor, never below 0; 0 for two zeros. */
    private static long commonOf(long a, long b) {
        long high = a < 0 ? -a : a;
        long low = b < 0 ? -b : b;
        for (int step = 0; step < EUCLID_STEPS && low != 0; step++) {
            long rest = high % low;
            high = low;
            low = rest;
        }
        return high;
    }

    /** The greatest whole number whose power is not above the number. */
    private static long rootOf(long number, int power) {
        long root = 0;
        for (int bit = 31; bit >= 0; bit--) {
            long more = root + (1L << bit);
            if (isPowerWithin(more, power, number)) {
                root = more;
            }
        }
        return root;
    }

    /** Divides the number instead of raising the base: a power might not fit a long. */
    private static boolean isPowerWithin(long base, int power, long number) {
        if (base < 1) {
            return false;
        }
        long rest = number;
        for (int i = 0; i < power; i++) {
            rest /= base;
        }
        return rest >= 1;
    }

    /**
     * Where a Plane keeps the term of a degree d with y to the power of j: of like degrees
     * the powers of x fall, as the document's order has them.
     */
    private static int slotOf(int d, int j) {
        return d * (d + 1) / 2 + j;
    }

    /** Three polynomials of t, each by rising powers. */
    private static final class Row {
        final long[][] parts = new long[PARTS][POWERS];

        int highestPower() {
            for (int i = POWERS - 1; i > 0; i--) {
                if (parts[X][i] != 0 || parts[Y][i] != 0 || parts[W][i] != 0) {
                    return i;
                }
            }
            return 0;
        }

        boolean isZero(int part) {
            return topOf(parts[part]) < 0;
        }

        int countAndErase() {
            int count = 0;
            for (int part = 0; part < PARTS; part++) {
                for (int i = 0; i < POWERS; i++) {
                    if (parts[part][i] != 0) {
                        count++;
                        parts[part][i] = 0;
                    }
                }
            }
            return count;
        }

        /** The degree of a polynomial of t, -1 for 0. */
        static int topOf(long[] polynomial) {
            for (int i = POWERS - 1; i >= 0; i--) {
                if (polynomial[i] != 0) {
                    return i;
                }
            }
            return -1;
        }
    }

    /** Finds what all three polynomials of a row have in common, and divides them by it. */
    private static final class Divisor {
        /** Both polynomials' degrees fall by less than this many steps together. */
        private static final int MOST_STEPS = 32;

        private final long[] shared = new long[POWERS];
        private final long[] other = new long[POWERS];
        private final long[] spare = new long[POWERS];

        void free(Row from, Row to) {
            Arrays.fill(shared, 0);
            for (int part = 0; part < PARTS; part++) {
                System.arraycopy(from.parts[part], 0, to.parts[part], 0, POWERS);
                System.arraycopy(from.parts[part], 0, other, 0, POWERS);
                shareWithOther();
            }
            makePrimitive(shared);
            if (Row.topOf(shared) >= 1) {
                for (int part = 0; part < PARTS; part++) {
                    divideByShared(to.parts[part]);
                }
            }
        }

        /** Euclid's way: ends with 0 in other, and in shared what both had in common. */
        private void shareWithOther() {
            for (int step = 0; step < MOST_STEPS; step++) {
                int sharedTop = Row.topOf(shared);
                int otherTop = Row.topOf(other);
                if (otherTop < 0) {
                    return;
                }
                if (sharedTop < otherTop) {
                    swap();
                } else {
                    lowerShared(sharedTop, otherTop);
                    makePrimitive(shared);
                }
            }
        }

        private void swap() {
            System.arraycopy(shared, 0, spare, 0, POWERS);
            System.arraycopy(other, 0, shared, 0, POWERS);
            System.arraycopy(spare, 0, other, 0, POWERS);
        }

        /**
         * Takes the highest power out of shared. As contents are taken out at each step, no
         * number here is above a resultant of the row's polynomials (15.7^8 at most) times the
         * square of a leading subresultant (14^4 at most): 6e18 is never reached, so that the
         * difference is right even if both products should wrap around.
         */
        private void lowerShared(int sharedTop, int otherTop) {
            long common = commonOf(shared[sharedTop], other[otherTop]);
            if (common == 0) {
                return;
            }
            long sharedFactor = other[otherTop] / common;
            long otherFactor = shared[sharedTop] / common;
            int shift = sharedTop - otherTop;
            for (int i = 0; i <= sharedTop; i++) {
                long away = i < shift ? 0 : otherFactor * other[i - shift];
                shared[i] = sharedFactor * shared[i] - away;
            }
        }

        private void makePrimitive(long[] polynomial) {
            int top = Row.topOf(polynomial);
            if (top < 0) {
                return;
            }
            long content = 0;
            for (int i = 0; i <= top; i++) {
                content = commonOf(content, polynomial[i]);
            }
            if (content == 0) {
                return;
            }
            if (polynomial[top] < 0) {
                content = -content;
            }
            for (int i = 0; i <= top; i++) {
                polynomial[i] /= content;
            }
        }

        /** The quotients are whole: shared is primitive, and a divisor. */
        private void divideByShared(long[] polynomial) {
            int low = Row.topOf(shared);
            if (low < 0 || shared[low] == 0) {
                return;
            }
            System.arraycopy(polynomial, 0, spare, 0, POWERS);
            Arrays.fill(polynomial, 0);
            for (int i = POWERS - 1 - low; i >= 0; i--) {
                long quotient = spare[i + low] / shared[low];
                polynomial[i] = quotient;
                for (int k = 0; k <= low; k++) {
                    spare[i + k] -= quotient * shared[k];
                }
            }
        }
    }

    /** A polynomial in x and y, of degree 6 at most. */
    private static final class Plane {
        final long[] cells = new long[CELLS];
        /** No term is of a higher degree; one of this degree may be missing until tighten(). */
        int bound = 0;

        void erase() {
            Arrays.fill(cells, 0);
            bound = 0;
        }

        void setLine(long byX, long byY, long constant) {
            erase();
            bound = 1;
            cells[slotOf(0, 0)] = constant;
            cells[slotOf(1, 0)] = byX;
            cells[slotOf(1, 1)] = byY;
        }

        void copy(Plane from) {
            System.arraycopy(from.cells, 0, cells, 0, CELLS);
            bound = from.bound;
        }

        /** Takes no product that might have no room: the eliminants' degrees leave room for all. */
        void addProduct(Plane a, Plane b, long factor) {
            int degree = a.bound + b.bound;
            if (degree > MOST_DEGREE) {
                return;
            }
            bound = bound < degree ? degree : bound;
            for (int d = 0; d <= a.bound; d++) {
                for (int j = 0; j <= d; j++) {
                    long multiplier = factor * a.cells[slotOf(d, j)];
                    int last = multiplier == 0 ? -1 : b.bound;
                    for (int e = 0; e <= last; e++) {
                        int from = slotOf(e, 0);
                        int to = slotOf(d + e, j);
                        for (int k = 0; k <= e; k++) {
                            cells[to + k] += multiplier * b.cells[from + k];
                        }
                    }
                }
            }
        }

        void tighten() {
            while (bound > 0 && firstOfBound() < 0) {
                bound--;
            }
        }

        /** The power of y in the first term of the highest degree, -1 if there is none. */
        int firstOfBound() {
            for (int j = 0; j <= bound; j++) {
                if (cells[slotOf(bound, j)] != 0) {
                    return j;
                }
            }
            return -1;
        }

        void makePrimitive() {
            tighten();
            int first = firstOfBound();
            long content = 0;
            for (int i = 0; i < CELLS; i++) {
                content = commonOf(content, cells[i]);
            }
            if (first < 0 || content == 0) {
                return;
            }
            if (cells[slotOf(bound, first)] < 0) {
                content = -content;
            }
            for (int i = 0; i < CELLS; i++) {
                cells[i] /= content;
            }
        }

        long sumOfSizes() {
            long sum = 0;
            for (int i = 0; i < CELLS; i++) {
                sum += Math.abs(cells[i]);
            }
            return sum;
        }

        boolean isSame(Plane that) {
            for (int i = 0; i < CELLS; i++) {
                if (cells[i] != that.cells[i]) {
                    return false;
                }
            }
            return true;
        }

        /**
         * The value at (p / s, q / s) times s to the power of the degree. No eliminant's is
         * above 1069 * 343^6 < 2^61 (a discriminant of five numbers of 7 * (20 + 20 + 9) at
         * most), so the sum is right even if it should wrap around on the way.
         */
        long scaledValue(long p, long q, long s) {
            long sum = 0;
            for (int d = 0; d <= bound; d++) {
                long scale = powerOf(s, bound - d);
                for (int j = 0; j <= d; j++) {
                    long multiplier = cells[slotOf(d, j)];
                    if (multiplier != 0) {
                        sum += multiplier * powerOf(p, d - j) * powerOf(q, j) * scale;
                    }
                }
            }
            return sum;
        }
    }

    /** What the document tells of a locus or an envelope. */
    private static final class Curve {
        final Plane root = new Plane();
        int power = 0;
        boolean known = false;
        boolean found = false;
    }

    /**
     * Resultants of two polynomials of t whose coefficients are lines in x and y, both taken to
     * be of the same degree: the determinant of Bezout's matrix, which is half as large as
     * Sylvester's, and the same but for the sign.
     */
    private static final class Eliminant {
        private final Plane[] first = new Plane[POWERS];
        private final Plane[] second = new Plane[POWERS];
        private final Plane[] entries = new Plane[MOST_SIZE * MOST_SIZE];
        private final Plane[] minors = new Plane[1 << MOST_SIZE];

        Eliminant() {
            for (int i = 0; i < POWERS; i++) {
                first[i] = new Plane();
                second[i] = new Plane();
            }
            // the matrix is its own mirror image, so an entry and its mirror are one object
            for (int i = 0; i < MOST_SIZE; i++) {
                for (int j = i; j < MOST_SIZE; j++) {
                    Plane entry = new Plane();
                    entries[i * MOST_SIZE + j] = entry;
                    entries[j * MOST_SIZE + i] = entry;
                }
            }
            for (int i = 0; i < minors.length; i++) {
                minors[i] = new Plane();
            }
        }

        /** Takes X - x W and Y - y W in hand: their degree, 0 if they have no resultant. */
        int takeMover(Row bare) {
            int top = bare.isZero(W) ? 0 : bare.highestPower();
            for (int i = 0; i <= top; i++) {
                first[i].setLine(-bare.parts[W][i], 0, bare.parts[X][i]);
                second[i].setLine(0, -bare.parts[W][i], bare.parts[Y][i]);
            }
            return top;
        }

        /** Takes both derivatives of X x + Y y + W in hand: their degree, 0 if none is told. */
        int takeLines(Row lines) {
            int top = lines.highestPower();
            for (int i = 0; i < top; i++) {
                setScaledLine(first[i], lines, i + 1, i + 1);
                setScaledLine(second[i], lines, i, top - i);
            }
            return top < 2 ? 0 : top - 1;
        }

        private static void setScaledLine(Plane plane, Row lines, int i, long scale) {
            plane.setLine(scale * lines.parts[X][i], scale * lines.parts[Y][i], scale * lines.parts[W][i]);
        }

        /** The size is what was told when both were taken in hand, 1 .. 4. */
        Plane resultant(int size) {
            for (int i = 0; i < size; i++) {
                for (int j = i; j < size; j++) {
                    fillEntry(i, j, size);
                }
            }
            minors[0].erase();
            minors[0].cells[0] = 1;
            int all = (1 << size) - 1;
            for (int columns = 1; columns <= all; columns++) {
                fillMinor(columns, size);
            }
            return minors[all];
        }

        /** In a mover's entries all terms of degree 2 cancel, which tighten() makes use of. */
        private void fillEntry(int i, int j, int size) {
            Plane entry = entries[i * MOST_SIZE + j];
            entry.erase();
            int last = Math.min(i, size - 1 - j);
            for (int k = 0; k <= last; k++) {
                entry.addProduct(first[j + k + 1], second[i - k], 1);
                entry.addProduct(first[i - k], second[j + k + 1], -1);
            }
            entry.tighten();
        }

        /** The minor of the first lines and these columns (bits), by its last line. */
        private void fillMinor(int columns, int size) {
            Plane minor = minors[columns];
            minor.erase();
            int line = Integer.bitCount(columns) - 1;
            int sign = 1;
            for (int column = size - 1; column >= 0; column--) {
                if ((columns >> column & 1) == 1) {
                    minor.addProduct(entries[line * MOST_SIZE + column], minors[columns ^ (1 << column)], sign);
                    sign = -sign;
                }
            }
        }
    }

    /** Finds the root of a polynomial in x and y, term by term in the document's order. */
    private static final class RootFinder {
        private final Plane whole = new Plane();
        private final Plane root = new Plane();
        private final Plane raised = new Plane();
        private final Plane spare = new Plane();

        /** Tells root and power to the curve; false, if the polynomial is 0 or a constant. */
        boolean findRoot(Plane eliminant, Curve curve) {
            whole.copy(eliminant);
            whole.makePrimitive();
            if (whole.bound < 1) {
                return false;
            }
            int power = whole.bound;
            while (power > 1 && !(startRoot(power) && completeRoot(power) && raised.isSame(whole))) {
                power--;
            }
            curve.root.copy(power > 1 ? root : whole);
            curve.power = power;
            return true;
        }

        /** Sets the root's first term; false, if the whole's first term is no such power. */
        private boolean startRoot(int power) {
            int first = whole.firstOfBound();
            if (power < 1 || first < 0 || whole.bound % power != 0 || first % power != 0) {
                return false;
            }
            long lead = whole.cells[slotOf(whole.bound, first)];
            long rootLead = rootOf(lead, power);
            root.erase();
            root.bound = whole.bound / power;
            root.cells[slotOf(root.bound, first / power)] = rootLead;
            return powerOf(rootLead, power) == lead;
        }

        /**
         * Sets the other terms, each as the next term of the power asks for it.
         * A coefficient of a root is no greater than the root of the sum of all sizes in the
         * whole (Cauchy's estimate on the unit circles); what is above it is refused, which
         * keeps every power within a long.
         */
        private boolean completeRoot(int power) {
            int first = root.firstOfBound();
            if (first < 0) {
                return false;
            }
            long divisor = power * powerOf(root.cells[slotOf(root.bound, first)], power - 1);
            if (divisor == 0) {
                return false;
            }
            long limit = rootOf(whole.sumOfSizes(), power);
            raiseRoot(power);
            for (int d = root.bound; d >= 0; d--) {
                for (int j = d == root.bound ? first + 1 : 0; j <= d; j++) {
                    int slot = slotOf(d + (power - 1) * root.bound, j + (power - 1) * first);
                    long rest = whole.cells[slot] - raised.cells[slot];
                    long found = rest / divisor;
                    if (found * divisor != rest || found > limit || found < -limit) {
                        return false;
                    }
                    if (found != 0) {
                        root.cells[slotOf(d, j)] = found;
                        raiseRoot(power);
                    }
                }
            }
            return true;
        }

        private void raiseRoot(int power) {
            raised.copy(root);
            for (int i = 1; i < power; i++) {
                spare.erase();
                spare.addProduct(raised, root, 1);
                raised.copy(spare);
            }
        }
    }
}
