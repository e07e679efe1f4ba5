import java.math.BigInteger;

/** "False, and nothing changes": each call that the document refuses, its answer and what stays. */
public final class RefusedCallsTest {
    private static final BigInteger FIELD = Model.FIELD;
    private static final BigInteger ORDER = Model.ORDER;
    private static final BigInteger LAST = Model.FULL.subtract(BigInteger.ONE);
    private static final BigInteger BASE_X = Model.BASE.x();
    private static final BigInteger BASE_Y = Model.BASE.y();

    public static void main(String[] args) {
        invertOfZero();
        invertOfThePrimeItself();
        invertOfZeroIntoItsSource();
        invertIsRefusedByItsOwnPrimeAlone();
        rootOfANumberThatIsNoSquare();
        rootOfANumberAboveFieldThatIsNoSquare();
        rootIntoItsSource();
        pointBesideTheCurve();
        pointOfOneRegisterTwice();
        pointWithXNotBelowField();
        pointWithYNotBelowField();
        pointOnATargetThatIsNone();
        liftOfAnXWithoutPoint();
        liftOfAnXNotBelowField();
        liftOnATargetThatIsNone();
        takeOfNone();
        takeOfAPointThatBecameNone();
        Report.end();
    }

    /** Promise 7: "if a is 0 by it: false, and nothing changes". */
    private static void invertOfZero() {
        for (boolean order : new boolean[] {false, true}) {
            Bench bench = Bench.full();
            bench.put(1, 0);
            bench.refuses("invert of 0, order " + order, curve -> curve.invert(2, 1, order));
        }
    }

    /** "0 by it": the prime is 0 modulo itself. */
    private static void invertOfThePrimeItself() {
        Bench bench = Bench.full();
        bench.put(1, FIELD);
        bench.refuses("invert of FIELD by FIELD", curve -> curve.invert(2, 1, false));
        bench = Bench.full();
        bench.put(1, ORDER);
        bench.refuses("invert of ORDER by ORDER", curve -> curve.invert(2, 1, true));
    }

    private static void invertOfZeroIntoItsSource() {
        Bench bench = Bench.full();
        bench.put(1, FIELD);
        bench.refuses("invert of FIELD by FIELD into itself", curve -> curve.invert(1, 1, false));
        bench.holds("it is FIELD still, not 0", 1, FIELD);
        bench = Bench.full();
        bench.put(1, ORDER);
        bench.refuses("invert of ORDER by ORDER into itself", curve -> curve.invert(1, 1, true));
        bench.holds("it is ORDER still, not 0", 1, ORDER);
        bench = Bench.full();
        bench.put(1, 0);
        bench.refuses("invert of 0 into itself", curve -> curve.invert(1, 1, true));
    }

    private static void invertIsRefusedByItsOwnPrimeAlone() {
        Bench bench = new Bench();
        bench.put(0, FIELD);
        bench.put(1, ORDER);
        Report.due("invert of FIELD by ORDER", bench.use().invert(2, 0, true), true);
        bench.holds("what it is", 2, FIELD.modInverse(ORDER));
        Report.due("invert of ORDER by FIELD", bench.use().invert(2, 1, false), true);
        bench.holds("what it is", 2, ORDER.modInverse(FIELD));
    }

    /** Promise 8: "if there is none: false, and nothing changes". FIELD - 1 has none as FIELD is 3 modulo 4. */
    private static void rootOfANumberThatIsNoSquare() {
        for (BigInteger a : new BigInteger[] {
            Numbers.of(3), Numbers.of(5), FIELD.subtract(BigInteger.ONE), FIELD.subtract(Numbers.of(4))}) {
            Bench bench = Bench.full();
            bench.put(1, a);
            bench.refuses("root of " + a, curve -> curve.root(2, 1));
        }
    }

    private static void rootOfANumberAboveFieldThatIsNoSquare() {
        Bench bench = Bench.full();
        bench.put(1, FIELD.add(Numbers.of(3)));
        bench.refuses("root of FIELD + 3", curve -> curve.root(2, 1));
        bench = Bench.full();
        bench.put(1, LAST.subtract(Numbers.of(2)));
        bench.refuses("root of 2^256 - 3", curve -> curve.root(2, 1));
    }

    private static void rootIntoItsSource() {
        Bench bench = Bench.full();
        bench.put(1, 3);
        bench.refuses("root of 3 into itself", curve -> curve.root(1, 1));
        bench = Bench.full();
        bench.put(1, FIELD.add(Numbers.of(3)));
        bench.refuses("root of FIELD + 3 into itself", curve -> curve.root(1, 1));
        bench.holds("it is FIELD + 3 still, not 3", 1, FIELD.add(Numbers.of(3)));
    }

    /** Promise 11: "if that is one, and true; else false, and nothing changes". */
    private static void pointBesideTheCurve() {
        refusedPoint(BASE_X, BASE_Y.add(BigInteger.ONE));
        refusedPoint(BASE_X, BASE_Y.subtract(BigInteger.ONE));
        refusedPoint(BASE_X.add(BigInteger.ONE), BASE_Y);
        refusedPoint(BASE_X, FIELD.subtract(BASE_Y).subtract(BigInteger.ONE));
        refusedPoint(BASE_Y, BASE_X);
        refusedPoint(BASE_X, BigInteger.ZERO);
        refusedPoint(BigInteger.ZERO, BASE_Y);
        refusedPoint(BigInteger.ZERO, BigInteger.ZERO);
        // By ORDER in place of FIELD, y and its opposite would be these.
        refusedPoint(BASE_X, ORDER.subtract(BASE_Y));
    }

    private static void refusedPoint(BigInteger x, BigInteger y) {
        Bench bench = Bench.full();
        bench.put(2, x);
        bench.put(3, y);
        bench.refuses("point of " + Bench.tell(x, y), curve -> curve.point(1, 2, 3));
    }

    /** No POINT has an x that is its y: x^3 - x^2 + 7 is nowhere 0 modulo FIELD. */
    private static void pointOfOneRegisterTwice() {
        Bench bench = Bench.full();
        bench.put(2, BASE_X);
        bench.refuses("point of one REGISTER twice", curve -> curve.point(1, 2, 2));
    }

    /** Terms: x and y are "below FIELD". Each x here is FIELD and the x of a POINT. */
    private static void pointWithXNotBelowField() {
        for (BigInteger over : new BigInteger[] {
            Numbers.of(1), Numbers.of(2), LAST.subtract(FIELD), LAST.subtract(FIELD).subtract(Numbers.of(4))}) {
            BigInteger y = Model.evenRoot(Model.squareOfY(over));
            Bench bench = new Bench();
            bench.place(1, over, y);
            refusedPoint(FIELD.add(over), y);
            refusedPoint(FIELD.add(over), FIELD.subtract(y));
        }
        refusedPoint(FIELD, BASE_Y);
        refusedPoint(FIELD, BigInteger.ZERO);
    }

    private static void pointWithYNotBelowField() {
        for (long small : new long[] {1, 6, 11}) {
            BigInteger y = Numbers.of(small);
            Bench bench = new Bench();
            bench.place(1, CurveFacts.xOfY(y), y);
            refusedPoint(CurveFacts.xOfY(y), FIELD.add(y));
        }
        BigInteger y = LAST.subtract(Numbers.of(2));
        refusedPoint(CurveFacts.xOfY(y.subtract(FIELD)), y);
        refusedPoint(BASE_X, FIELD);
        refusedPoint(BASE_X, LAST);
        refusedPoint(LAST, LAST);
    }

    private static void pointOnATargetThatIsNone() {
        Bench bench = Bench.full();
        bench.use().none(1);
        bench.put(2, BASE_X);
        bench.put(3, BASE_X);
        bench.refuses("point on a target that is NONE", curve -> curve.point(1, 2, 3));
        Report.due("it is NONE still", bench.look(1), "NONE");
    }

    /** Promise 12: "if there is one, and true; else false, and nothing changes". */
    private static void liftOfAnXWithoutPoint() {
        for (BigInteger x : new BigInteger[] {
            BigInteger.ZERO, Numbers.of(5), Numbers.of(7), FIELD.subtract(BigInteger.ONE)}) {
            refusedLift(x);
        }
    }

    private static void refusedLift(BigInteger x) {
        for (boolean odd : new boolean[] {false, true}) {
            Bench bench = Bench.full();
            bench.put(2, x);
            bench.refuses("lift of " + x + ", odd " + odd, curve -> curve.lift(1, 2, odd));
        }
    }

    /** All but FIELD itself are FIELD and the x of a POINT. */
    private static void liftOfAnXNotBelowField() {
        refusedLift(FIELD);
        refusedLift(FIELD.add(Numbers.of(1)));
        refusedLift(FIELD.add(Numbers.of(2)));
        refusedLift(LAST.subtract(Numbers.of(4)));
        refusedLift(LAST);
    }

    private static void liftOnATargetThatIsNone() {
        Bench bench = Bench.full();
        bench.use().none(1);
        bench.put(2, 5);
        bench.refuses("lift on a target that is NONE", curve -> curve.lift(1, 2, true));
        Report.due("it is NONE still", bench.look(1), "NONE");
    }

    /** Promise 15: "if that is NONE: false, and nothing changes". */
    private static void takeOfNone() {
        for (boolean second : new boolean[] {false, true}) {
            Bench bench = new Bench();
            for (int r = 0; r < 4; r++) {
                bench.put(r, LAST.subtract(Numbers.of(r)));
            }
            bench.refuses("take of NONE at first, second " + second, curve -> curve.take(1, 0, second));
        }
    }

    private static void takeOfAPointThatBecameNone() {
        for (boolean second : new boolean[] {false, true}) {
            Bench bench = Bench.full();
            bench.use().none(2);
            bench.refuses("take after none, second " + second, curve -> curve.take(1, 2, second));
            bench = Bench.full();
            bench.put(0, ORDER);
            bench.use().times(2, 2, 0);
            bench.refuses("take after times ORDER, second " + second, curve -> curve.take(1, 2, second));
        }
    }
}
