import java.math.BigInteger;

/** The document in the plainest words: the same face, over BigInteger and by the school formulas. */
final class Model {
    static final BigInteger FULL = BigInteger.ONE.shiftLeft(256);
    static final BigInteger FIELD =
        FULL.subtract(BigInteger.ONE.shiftLeft(32)).subtract(BigInteger.valueOf(977));
    static final BigInteger ORDER = new BigInteger(
        "115792089237316195423570985008687907852837564279074904382605163141518161494337");
    static final Place BASE = new Place(
        new BigInteger(
            "55066263022277343669578718895168534326250603453777594175500187360389116729240"),
        new BigInteger(
            "32670510020758816978083085130507043184471273380659243275938904335757337482424"));

    /** A POINT; NONE is null. */
    record Place(BigInteger x, BigInteger y) {
    }

    final BigInteger[] registers = new BigInteger[4];
    final Place[] points = new Place[4];

    Model() {
        java.util.Arrays.fill(registers, BigInteger.ZERO);
    }

    static BigInteger prime(boolean order) {
        return order ? ORDER : FIELD;
    }

    static BigInteger unsigned(int v) {
        return BigInteger.valueOf(v & 0xFFFFFFFFL);
    }

    int set(int r, int k, int v) {
        int old = get(r, k);
        int shift = 32 * (k & 7);
        registers[r & 3] = registers[r & 3]
            .subtract(unsigned(old).shiftLeft(shift)).add(unsigned(v).shiftLeft(shift));
        return old;
    }

    int get(int r, int k) {
        return registers[r & 3].shiftRight(32 * (k & 7)).intValue();
    }

    void add(int r, int a, int b, boolean order) {
        registers[r & 3] = registers[a & 3].add(registers[b & 3]).mod(prime(order));
    }

    void subtract(int r, int a, int b, boolean order) {
        registers[r & 3] = registers[a & 3].subtract(registers[b & 3]).mod(prime(order));
    }

    void multiply(int r, int a, int b, boolean order) {
        registers[r & 3] = registers[a & 3].multiply(registers[b & 3]).mod(prime(order));
    }

    boolean invert(int r, int a, boolean order) {
        if (registers[a & 3].mod(prime(order)).signum() == 0) {
            return false;
        }
        registers[r & 3] = registers[a & 3].modInverse(prime(order));
        return true;
    }

    boolean root(int r, int a) {
        BigInteger found = evenRoot(registers[a & 3]);
        if (found == null) {
            return false;
        }
        registers[r & 3] = found;
        return true;
    }

    static BigInteger evenRoot(BigInteger square) {
        BigInteger power = FIELD.add(BigInteger.ONE).shiftRight(2);
        BigInteger found = square.modPow(power, FIELD);
        if (!found.multiply(found).mod(FIELD).equals(square.mod(FIELD))) {
            return null;
        }
        return found.testBit(0) ? FIELD.subtract(found) : found;
    }

    static BigInteger squareOfY(BigInteger x) {
        return x.pow(3).add(BigInteger.valueOf(7)).mod(FIELD);
    }

    void base(int q) {
        points[q & 3] = BASE;
    }

    void none(int q) {
        points[q & 3] = null;
    }

    boolean point(int q, int a, int b) {
        BigInteger x = registers[a & 3];
        BigInteger y = registers[b & 3];
        if (x.compareTo(FIELD) >= 0 || y.compareTo(FIELD) >= 0
            || !y.multiply(y).mod(FIELD).equals(squareOfY(x))) {
            return false;
        }
        points[q & 3] = new Place(x, y);
        return true;
    }

    boolean lift(int q, int a, boolean odd) {
        BigInteger x = registers[a & 3];
        BigInteger y = x.compareTo(FIELD) >= 0 ? null : evenRoot(squareOfY(x));
        if (y == null) {
            return false;
        }
        points[q & 3] = new Place(x, odd ? FIELD.subtract(y) : y);
        return true;
    }

    void plus(int q, int a, int b) {
        points[q & 3] = sum(points[a & 3], points[b & 3]);
    }

    static Place sum(Place a, Place b) {
        if (a == null || b == null) {
            return a == null ? b : a;
        }
        if (a.x.equals(b.x) && a.y.add(b.y).mod(FIELD).signum() == 0) {
            return null;
        }
        BigInteger rise = a.equals(b) ? a.x.pow(2).multiply(BigInteger.valueOf(3)) : b.y.subtract(a.y);
        BigInteger run = a.equals(b) ? a.y.shiftLeft(1) : b.x.subtract(a.x);
        BigInteger slope = rise.multiply(run.modInverse(FIELD)).mod(FIELD);
        BigInteger x = slope.pow(2).subtract(a.x).subtract(b.x).mod(FIELD);
        return new Place(x, slope.multiply(a.x.subtract(x)).subtract(a.y).mod(FIELD));
    }

    void times(int q, int a, int r) {
        Place sum = null;
        Place doubled = points[a & 3];
        BigInteger number = registers[r & 3];
        for (int bit = 0; bit < number.bitLength(); bit++) {
            if (number.testBit(bit)) {
                sum = sum(sum, doubled);
            }
            doubled = sum(doubled, doubled);
        }
        points[q & 3] = sum;
    }

    boolean take(int r, int q, boolean second) {
        Place from = points[q & 3];
        if (from == null) {
            return false;
        }
        registers[r & 3] = second ? from.y : from.x;
        return true;
    }

    boolean same(int a, int b) {
        return points[a & 3] == null ? points[b & 3] == null : points[a & 3].equals(points[b & 3]);
    }
}
