/** Numbers by the two primes of secp256k1, and the points of that curve. */
public final class KeyCurve {
    private static final int COUNT = 4;
    private static final int COUNT_MASK = 3;
    private static final int WORDS = 8;
    private static final int WORDS_MASK = 7;
    private static final int WORD_BITS = 32;
    private static final long WORD_MASK = 0xFFFFFFFFL;

    // Every row of words is lowest first, and each word lies from 0 to 2^32 - 1.
    private static final long[] FIELD = {
        0xFFFFFC2FL, 0xFFFFFFFEL, 0xFFFFFFFFL, 0xFFFFFFFFL,
        0xFFFFFFFFL, 0xFFFFFFFFL, 0xFFFFFFFFL, 0xFFFFFFFFL};
    private static final long[] ORDER = {
        0xD0364141L, 0xBFD25E8CL, 0xAF48A03BL, 0xBAAEDCE6L,
        0xFFFFFFFEL, 0xFFFFFFFFL, 0xFFFFFFFFL, 0xFFFFFFFFL};

    // The gap of a prime is 2^256 less the prime: both are short, which makes the reduction cheap.
    private static final long[] FIELD_GAP = {0x000003D1L, 1L, 0L, 0L, 0L, 0L, 0L, 0L};
    private static final int FIELD_GAP_WORDS = 2;
    private static final long[] ORDER_GAP = {
        0x2FC9BEBFL, 0x402DA173L, 0x50B75FC4L, 0x45512319L, 1L, 0L, 0L, 0L};
    private static final int ORDER_GAP_WORDS = 5;

    // (FIELD + 1) / 4: as FIELD is 3 modulo 4, a square to this power is one of its roots.
    private static final long[] ROOT_POWER = {
        0xBFFFFF0CL, 0xFFFFFFFFL, 0xFFFFFFFFL, 0xFFFFFFFFL,
        0xFFFFFFFFL, 0xFFFFFFFFL, 0xFFFFFFFFL, 0x3FFFFFFFL};

    private static final long[] ONE = {1L, 0L, 0L, 0L, 0L, 0L, 0L, 0L};
    private static final long[] SEVEN = {7L, 0L, 0L, 0L, 0L, 0L, 0L, 0L};
    private static final long[] BASE_X = {
        0x16F81798L, 0x59F2815BL, 0x2DCE28D9L, 0x029BFCDBL,
        0xCE870B07L, 0x55A06295L, 0xF9DCBBACL, 0x79BE667EL};
    private static final long[] BASE_Y = {
        0xFB10D4B8L, 0x9C47D08FL, 0xA6855419L, 0xFD17B448L,
        0x0E1108A8L, 0x5DA4FBFCL, 0x26A3C465L, 0x483ADA77L};

    private final long[][] registers;
    private final Spot[] points;
    private final Prime field;
    private final Prime order;
    private final Curve curve;

    public KeyCurve() {
        registers = new long[COUNT][WORDS];
        points = new Spot[COUNT];
        for (int i = 0; i < COUNT; i++) {
            points[i] = new Spot();
        }
        field = new Prime(FIELD, FIELD_GAP, FIELD_GAP_WORDS);
        order = new Prime(ORDER, ORDER_GAP, ORDER_GAP_WORDS);
        curve = new Curve(field);
    }

    public int set(int r, int k, int v) {
        long[] row = register(r);
        int old = (int) row[k & WORDS_MASK];
        row[k & WORDS_MASK] = v & WORD_MASK;
        return old;
    }

    public int get(int r, int k) {
        return (int) register(r)[k & WORDS_MASK];
    }

    public void add(int r, int a, int b, boolean order) {
        prime(order).sum(register(r), register(a), register(b));
    }

    public void subtract(int r, int a, int b, boolean order) {
        prime(order).difference(register(r), register(a), register(b));
    }

    public void multiply(int r, int a, int b, boolean order) {
        prime(order).product(register(r), register(a), register(b));
    }

    public boolean invert(int r, int a, boolean order) {
        return prime(order).inverse(register(r), register(a));
    }

    public boolean root(int r, int a) {
        return curve.evenRoot(register(r), register(a));
    }

    public void base(int q) {
        spot(q).become(BASE_X, BASE_Y);
    }

    public void none(int q) {
        spot(q).isNone = true;
    }

    public boolean point(int q, int a, int b) {
        if (!curve.holds(register(a), register(b))) {
            return false;
        }
        spot(q).become(register(a), register(b));
        return true;
    }

    public boolean lift(int q, int a, boolean odd) {
        return curve.findByX(spot(q), register(a), odd);
    }

    public void plus(int q, int a, int b) {
        curve.start();
        curve.join(spot(a));
        curve.join(spot(b));
        curve.finish(spot(q));
    }

    public void times(int q, int a, int r) {
        curve.startMultiple(spot(a), register(r));
        curve.finish(spot(q));
    }

    public boolean take(int r, int q, boolean second) {
        Spot from = spot(q);
        if (from.isNone) {
            return false;
        }
        Words.copy(register(r), second ? from.y : from.x);
        return true;
    }

    public boolean same(int a, int b) {
        Spot first = spot(a);
        Spot second = spot(b);
        if (first.isNone || second.isNone) {
            return first.isNone && second.isNone;
        }
        return Words.areEqual(first.x, second.x) && Words.areEqual(first.y, second.y);
    }

    private long[] register(int r) {
        return registers[r & COUNT_MASK];
    }

    private Spot spot(int q) {
        return points[q & COUNT_MASK];
    }

    private Prime prime(boolean byOrder) {
        return byOrder ? order : field;
    }

    /** Rows of eight words, as plain numbers below 2^256. */
    private static final class Words {
        static void copy(long[] to, long[] from) {
            System.arraycopy(from, 0, to, 0, WORDS);
        }

        static boolean isZero(long[] a) {
            long all = 0;
            for (int i = 0; i < WORDS; i++) {
                all |= a[i];
            }
            return all == 0;
        }

        static boolean areEqual(long[] a, long[] b) {
            for (int i = 0; i < WORDS; i++) {
                if (a[i] != b[i]) {
                    return false;
                }
            }
            return true;
        }

        static boolean isBelow(long[] a, long[] b) {
            for (int i = WORDS - 1; i >= 0; i--) {
                if (a[i] != b[i]) {
                    return a[i] < b[i];
                }
            }
            return false;
        }

        static boolean isOdd(long[] a) {
            return (a[0] & 1) != 0;
        }

        static boolean hasBit(long[] a, int bit) {
            return (a[bit / WORD_BITS] >>> (bit % WORD_BITS) & 1) != 0;
        }

        /** Puts a + b into r and answers what goes over 2^256: 0 or 1. */
        static long sumInto(long[] r, long[] a, long[] b) {
            long carry = 0;
            for (int i = 0; i < WORDS; i++) {
                long sum = a[i] + b[i] + carry;
                r[i] = sum & WORD_MASK;
                carry = sum >>> WORD_BITS;
            }
            return carry;
        }

        /** Puts a - b into r and answers what was borrowed of 2^256: 0 or 1. */
        static long differenceInto(long[] r, long[] a, long[] b) {
            long borrow = 0;
            for (int i = 0; i < WORDS; i++) {
                long left = a[i] - b[i] - borrow;
                r[i] = left & WORD_MASK;
                borrow = left >>> 63;
            }
            return borrow;
        }
    }

    /**
     * Arithmetic modulo one prime. Sources are any rows below 2^256, answers lie below the prime,
     * and the target may be one of the sources.
     */
    private static final class Prime {
        // A product of two rows is below 2^256 after at most four folds by the longer gap.
        private static final int FOLDS = 4;
        private static final int TURNS = 2;

        private final long[] prime;
        private final long[] gap;
        private final int gapWords;
        private final long[] inversePower;
        private final long[] wide = new long[2 * WORDS];
        private final long[] high = new long[WORDS];
        private final long[] seed = new long[WORDS];
        private final long[] grown = new long[WORDS];
        private final long[] trimmed = new long[WORDS];

        Prime(long[] prime, long[] gap, int gapWords) {
            this.prime = prime;
            this.gap = gap;
            this.gapWords = gapWords;
            // The lowest word of either prime is above 2, so nothing is borrowed.
            inversePower = prime.clone();
            inversePower[0] -= 2;
        }

        void sum(long[] r, long[] a, long[] b) {
            long carry = Words.sumInto(r, a, b);
            // 2^256 counts as much as the gap; adding that can go over once more, not twice.
            for (int turn = 0; turn < TURNS && carry != 0; turn++) {
                carry = Words.sumInto(r, r, gap);
            }
            trim(r);
        }

        void difference(long[] r, long[] a, long[] b) {
            long borrow = Words.differenceInto(r, a, b);
            // What holds of the carry in a sum holds of the borrow here.
            for (int turn = 0; turn < TURNS && borrow != 0; turn++) {
                borrow = Words.differenceInto(r, r, gap);
            }
            trim(r);
        }

        void product(long[] r, long[] a, long[] b) {
            for (int i = 0; i < 2 * WORDS; i++) {
                wide[i] = 0;
            }
            for (int i = 0; i < WORDS; i++) {
                addRow(a[i], b, WORDS, i);
            }
            for (int turn = 0; turn < FOLDS && takeHigh(); turn++) {
                fold();
            }
            Words.copy(r, wide);
            trim(r);
        }

        /** Puts a to that power into r. */
        void power(long[] r, long[] a, long[] exponent) {
            Words.copy(seed, a);
            Words.copy(grown, ONE);
            for (int bit = WORDS * WORD_BITS - 1; bit >= 0; bit--) {
                product(grown, grown, grown);
                if (Words.hasBit(exponent, bit)) {
                    product(grown, grown, seed);
                }
            }
            Words.copy(r, grown);
        }

        /** Puts the inverse of a into r; if a is 0 modulo the prime, answers false and leaves r. */
        boolean inverse(long[] r, long[] a) {
            Words.copy(trimmed, a);
            trim(trimmed);
            if (Words.isZero(trimmed)) {
                return false;
            }
            power(r, trimmed, inversePower);
            return true;
        }

        /** Takes the prime from r if that is not below it: once is enough below 2^256. */
        void trim(long[] r) {
            if (!Words.isBelow(r, prime)) {
                Words.differenceInto(r, r, prime);
            }
        }

        /** Moves what the wide row has from 2^256 on to the high row; answers whether that is any. */
        private boolean takeHigh() {
            long all = 0;
            for (int i = 0; i < WORDS; i++) {
                high[i] = wide[WORDS + i];
                wide[WORDS + i] = 0;
                all |= high[i];
            }
            return all != 0;
        }

        private void fold() {
            for (int i = 0; i < WORDS; i++) {
                if (high[i] != 0) {
                    addRow(high[i], gap, gapWords, i);
                }
            }
        }

        /** Adds factor times the first words of the row to the wide row, from word at on. */
        private void addRow(long factor, long[] row, int words, int at) {
            long carry = 0;
            for (int j = 0; j < words; j++) {
                // At most 2^64 - 1: the sum fills the long, and so it is shifted without a sign.
                long sum = factor * row[j] + wide[at + j] + carry;
                wide[at + j] = sum & WORD_MASK;
                carry = sum >>> WORD_BITS;
            }
            for (int k = at + words; k < 2 * WORDS && carry != 0; k++) {
                long sum = wide[k] + carry;
                wide[k] = sum & WORD_MASK;
                carry = sum >>> WORD_BITS;
            }
        }
    }

    /** One POINT. Its x and y mean nothing while it is NONE. */
    private static final class Spot {
        final long[] x = new long[WORDS];
        final long[] y = new long[WORDS];
        boolean isNone = true;

        void become(long[] newX, long[] newY) {
            Words.copy(x, newX);
            Words.copy(y, newY);
            isNone = false;
        }
    }

    /**
     * The curve, with one running sum on it. The sum is held as (x / z^2, y / z^3), NONE as z = 0:
     * so only its end needs an inverse, and no POINT is touched before that.
     */
    private static final class Curve {
        private final Prime field;
        private final long[] x = new long[WORDS];
        private final long[] y = new long[WORDS];
        private final long[] z = new long[WORDS];
        private final long[] run = new long[WORDS];
        private final long[] rise = new long[WORDS];
        private final long[] square = new long[WORDS];
        private final long[] cube = new long[WORDS];
        private final long[] shared = new long[WORDS];
        private final long[] found = new long[WORDS];
        private final long[] wanted = new long[WORDS];
        private final long[] check = new long[WORDS];

        Curve(Prime field) {
            this.field = field;
        }

        /** Puts the even root of a into r; if a has none, answers false and leaves r. */
        boolean evenRoot(long[] r, long[] a) {
            Words.copy(wanted, a);
            field.trim(wanted);
            field.power(found, wanted, ROOT_POWER);
            field.product(check, found, found);
            if (!Words.areEqual(check, wanted)) {
                return false;
            }
            if (Words.isOdd(found)) {
                field.difference(found, FIELD, found);
            }
            Words.copy(r, found);
            return true;
        }

        boolean holds(long[] atX, long[] atY) {
            if (!Words.isBelow(atX, FIELD) || !Words.isBelow(atY, FIELD)) {
                return false;
            }
            putSquareOfY(cube, atX);
            field.product(check, atY, atY);
            return Words.areEqual(check, cube);
        }

        /** Makes the spot the POINT with that x; if there is none, answers false and leaves it. */
        boolean findByX(Spot spot, long[] atX, boolean odd) {
            if (!Words.isBelow(atX, FIELD)) {
                return false;
            }
            putSquareOfY(cube, atX);
            if (!evenRoot(rise, cube)) {
                return false;
            }
            // The root is never 0: ORDER is odd, so no POINT is its own opposite.
            if (odd) {
                field.difference(rise, FIELD, rise);
            }
            spot.become(atX, rise);
            return true;
        }

        private void putSquareOfY(long[] r, long[] atX) {
            field.product(r, atX, atX);
            field.product(r, r, atX);
            field.sum(r, r, SEVEN);
        }

        /** The running sum is NONE. */
        void start() {
            Words.copy(x, ONE);
            Words.copy(y, ONE);
            for (int i = 0; i < WORDS; i++) {
                z[i] = 0;
            }
        }

        /** The running sum is the spot, so often as the number says. */
        void startMultiple(Spot spot, long[] number) {
            start();
            for (int bit = WORDS * WORD_BITS - 1; bit >= 0; bit--) {
                twice();
                if (Words.hasBit(number, bit)) {
                    join(spot);
                }
            }
        }

        /** Adds the spot to the running sum. */
        void join(Spot spot) {
            if (spot.isNone) {
                return;
            }
            if (Words.isZero(z)) {
                Words.copy(x, spot.x);
                Words.copy(y, spot.y);
                Words.copy(z, ONE);
                return;
            }
            measureLine(spot);
            if (!Words.isZero(run)) {
                followLine();
            } else if (Words.isZero(rise)) {
                twice();
            } else {
                start();
            }
        }

        /** How far the line from the running sum to the spot goes in x and in y. */
        private void measureLine(Spot spot) {
            field.product(square, z, z);
            field.product(run, spot.x, square);
            field.difference(run, run, x);
            field.product(square, square, z);
            field.product(rise, spot.y, square);
            field.difference(rise, rise, y);
        }

        private void followLine() {
            field.product(z, z, run);
            field.product(square, run, run);
            field.product(cube, square, run);
            field.product(shared, x, square);
            field.product(x, rise, rise);
            field.difference(x, x, cube);
            field.difference(x, x, shared);
            field.difference(x, x, shared);
            field.difference(shared, shared, x);
            field.product(cube, cube, y);
            field.product(y, rise, shared);
            field.difference(y, y, cube);
        }

        /** Adds the running sum to itself. */
        private void twice() {
            // The formulas would keep NONE as well: this only spares the leading zeros of a number.
            if (Words.isZero(z)) {
                return;
            }
            field.product(z, y, z);
            field.sum(z, z, z);
            field.product(square, y, y);
            field.product(shared, x, square);
            field.sum(shared, shared, shared);
            field.sum(shared, shared, shared);
            field.product(run, x, x);
            field.sum(rise, run, run);
            field.sum(rise, rise, run);
            field.product(x, rise, rise);
            field.difference(x, x, shared);
            field.difference(x, x, shared);
            field.difference(shared, shared, x);
            field.product(y, rise, shared);
            // 8 y^4 is twice the square of 2 y^2.
            field.sum(square, square, square);
            field.product(square, square, square);
            field.sum(square, square, square);
            field.difference(y, y, square);
        }

        /** Makes the spot the running sum. */
        void finish(Spot spot) {
            if (!field.inverse(run, z)) {
                spot.isNone = true;
                return;
            }
            field.product(square, run, run);
            field.product(cube, square, run);
            field.product(x, x, square);
            field.product(y, y, cube);
            spot.become(x, y);
        }
    }
}
