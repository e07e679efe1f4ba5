import java.math.BigInteger;

/**
 * One object under test, with whole numbers in place of words and a picture of all that it holds.
 * What is due is told by the test itself here, not by the model.
 */
final class Bench {
    static final int MOST_CALLS = 512;

    /** One call of the object that answers a boolean. */
    interface Call {
        boolean on(KeyCurve curve);
    }

    private final KeyCurve curve = new KeyCurve();
    private int calls = 0;

    /** An object whose REGISTERS and POINTS are all different, none of them 0 or NONE. */
    static Bench full() {
        Bench bench = new Bench();
        bench.placeFour();
        for (int i = 0; i < 4; i++) {
            bench.put(i, Model.FULL.subtract(Numbers.of(1000 + i)));
        }
        return bench;
    }

    /** The object, for one call: beyond the 512th its answers are free, so no test goes there. */
    KeyCurve use() {
        if (calls == MOST_CALLS) {
            throw new IllegalStateException("this test makes more calls than an object is used for");
        }
        calls++;
        return curve;
    }

    int calls() {
        return calls;
    }

    void put(int r, BigInteger value) {
        for (int k = 0; k < 8; k++) {
            use().set(r, k, value.shiftRight(32 * k).intValue());
        }
    }

    void put(int r, long value) {
        put(r, Numbers.of(value));
    }

    BigInteger read(int r) {
        BigInteger value = BigInteger.ZERO;
        for (int k = 7; k >= 0; k--) {
            value = value.shiftLeft(32).add(Model.unsigned(use().get(r, k)));
        }
        return value;
    }

    /** POINT q is so many times BASE; REGISTER 0 is used up. */
    void multipleOfBase(int q, BigInteger number) {
        put(0, number);
        use().base(q);
        use().times(q, q, 0);
    }

    /** POINT q is (x, y); REGISTERS 0 and 1 are used up. */
    void place(int q, BigInteger x, BigInteger y) {
        put(0, x);
        put(1, y);
        Report.due("(" + x + ", " + y + ") is a POINT", use().point(q, 0, 1), true);
    }

    /** POINTS 0 to 3 are those with the x 1 to 4 and an even y; REGISTERS 0 and 1 are used up. */
    void placeFour() {
        for (int q = 0; q < 4; q++) {
            BigInteger x = Numbers.of(q + 1);
            place(q, x, Model.evenRoot(Model.squareOfY(x)));
        }
    }

    /** POINT q as "(x, y)" or "NONE"; REGISTER 3 is put back. */
    String look(int q) {
        BigInteger kept = read(3);
        String x = coordinate(q, false);
        String y = coordinate(q, true);
        put(3, kept);
        return x.equals("NONE") && y.equals("NONE") ? "NONE" : tell(x, y);
    }

    private String coordinate(int q, boolean second) {
        return use().take(3, q, second) ? read(3).toString() : "NONE";
    }

    static String tell(Object x, Object y) {
        return "(" + x + ", " + y + ")";
    }

    /** All that the object holds. */
    String picture() {
        StringBuilder text = new StringBuilder();
        for (int r = 0; r < 4; r++) {
            text.append("REGISTER ").append(r).append(" = ").append(read(r)).append("; ");
        }
        BigInteger kept = read(3);
        for (int q = 0; q < 4; q++) {
            text.append("POINT ").append(q).append(" = ");
            text.append(tell(coordinate(q, false), coordinate(q, true))).append("; ");
        }
        put(3, kept);
        return text.toString();
    }

    void holds(String what, int r, BigInteger due) {
        Report.due(what, read(r), due);
    }

    void holds(String what, int r, long due) {
        holds(what, r, Numbers.of(due));
    }

    /** The call answers false, and nothing changes. */
    void refuses(String what, Call call) {
        String before = picture();
        Report.due(what, call.on(use()), false);
        Report.due(what + ": what it holds after that", picture(), before);
    }
}
