import java.math.BigInteger;

/** Numbers for tests: the edges that the document names, and a fixed row of scattered ones. */
final class Numbers {
    private long state;

    Numbers(long seed) {
        state = seed;
    }

    static BigInteger of(long v) {
        return BigInteger.valueOf(v);
    }

    static BigInteger hex(String digits) {
        return new BigInteger(digits, 16);
    }

    static BigInteger[] edges() {
        BigInteger field = Model.FIELD;
        BigInteger order = Model.ORDER;
        BigInteger full = Model.FULL;
        BigInteger one = BigInteger.ONE;
        return new BigInteger[] {
            BigInteger.ZERO, one, of(2), of(7), of(0xFFFFFFFFL), one.shiftLeft(32), one.shiftLeft(128),
            one.shiftLeft(255), one.shiftLeft(255).subtract(one),
            order.shiftRight(1), order.subtract(one), order, order.add(one), full.subtract(order),
            field.subtract(order), field.shiftRight(1), field.subtract(one), field, field.add(one),
            full.subtract(field), full.subtract(of(2)), full.subtract(one)};
    }

    /** Scattered over all ints, by the steps of a known generator (splitmix). */
    int any() {
        state += 0x9E3779B97F4A7C15L;
        long mixed = (state ^ state >>> 30) * 0xBF58476D1CE4E5B9L;
        mixed = (mixed ^ mixed >>> 27) * 0x94D049BB133111EBL;
        return (int) (mixed >>> 32);
    }

    int below(int bound) {
        return Math.floorMod(any(), bound);
    }

    boolean coin() {
        return below(2) == 0;
    }

    BigInteger scattered(int bits) {
        BigInteger value = BigInteger.ZERO;
        for (int i = 0; i < 8; i++) {
            value = value.shiftLeft(32).add(Model.unsigned(any()));
        }
        return value.mod(BigInteger.ONE.shiftLeft(bits));
    }

    /** Often an edge, else of any length, else whole words of ones and zeros, where carries go far. */
    BigInteger mixed() {
        switch (below(4)) {
            case 0:
                return edges()[below(edges().length)];
            case 1:
                return scattered(1 + below(256));
            case 2:
                return scattered(256);
            default:
                BigInteger value = BigInteger.ZERO;
                for (int i = 0; i < 8; i++) {
                    value = value.shiftLeft(32).add(Model.unsigned(coin() ? -1 : coin() ? 0 : any()));
                }
                return value;
        }
    }
}
