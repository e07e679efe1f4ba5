import java.math.BigInteger;

/** The edges of "POINTS" in the Terms and of promises 9 to 12, 15 and 16; the sums are in SumEdgesTest. */
public final class PointEdgesTest {
    private static final BigInteger ONE = BigInteger.ONE;
    private static final BigInteger FIELD = Model.FIELD;
    private static final BigInteger BASE_X = Model.BASE.x();
    private static final BigInteger BASE_Y = Model.BASE.y();
    private static final String BASE = Bench.tell(BASE_X, BASE_Y);

    public static void main(String[] args) {
        baseHasItsCoordinates();
        baseChangesItsPointAlone();
        noneOfAPointAndOfNone();
        noneChangesItsPointAlone();
        pointTakesBothYs();
        pointTakesTheEndsBelowField();
        pointIsACopyOfItsRegisters();
        liftTakesTheYThatIsOddOrEven();
        liftTakesTheEndsBelowField();
        liftIsACopyOfItsRegister();
        takeAnswersXOrY();
        takeChangesItsRegisterAlone();
        takeIsACopy();
        sameOfNoneAndNone();
        sameOfNoneAndAPoint();
        sameForgetsWhatAPointWas();
        sameOfOpposites();
        sameOfPointsWithOneY();
        sameOfAPointWithItself();
        sameOfPointsThatCameByOtherWays();
        sameChangesNothing();
        Report.end();
    }

    /** Promise 9, and "BASE has the x .. and the y .." in the Terms, here as published in base 16. */
    private static void baseHasItsCoordinates() {
        BigInteger x = Numbers.hex("79BE667EF9DCBBAC55A06295CE870B07029BFCDB2DCE28D959F2815B16F81798");
        BigInteger y = Numbers.hex("483ADA7726A3C4655DA4FBFC0E1108A8FD17B448A68554199C47D08FFB10D4B8");
        for (int q = 0; q < 4; q++) {
            Bench bench = new Bench();
            bench.use().base(q);
            Report.due("base over NONE", bench.look(q), Bench.tell(x, y));
            bench.multipleOfBase(q, Numbers.of(5));
            bench.use().base(q);
            Report.due("base over another POINT", bench.look(q), Bench.tell(x, y));
        }
    }

    private static void baseChangesItsPointAlone() {
        Bench bench = Bench.full();
        String[] due = looks(bench);
        bench.use().base(2);
        due[2] = BASE;
        dueLooks("after base(2)", bench, due);
        bench.holds("REGISTER 0 after base", 0, Model.FULL.subtract(Numbers.of(1000)));
    }

    private static String[] looks(Bench bench) {
        return new String[] {bench.look(0), bench.look(1), bench.look(2), bench.look(3)};
    }

    private static void dueLooks(String what, Bench bench, String[] due) {
        for (int q = 0; q < 4; q++) {
            Report.due("POINT " + q + " " + what, bench.look(q), due[q]);
        }
    }

    /** Promise 10. */
    private static void noneOfAPointAndOfNone() {
        for (int q = 0; q < 4; q++) {
            Bench bench = new Bench();
            bench.use().none(q);
            Report.due("none of NONE", bench.look(q), "NONE");
            bench.use().base(q);
            bench.use().none(q);
            Report.due("none of BASE", bench.look(q), "NONE");
            bench.use().none(q);
            Report.due("none once more", bench.look(q), "NONE");
            bench.use().base(q);
            Report.due("base after none", bench.look(q), BASE);
        }
    }

    private static void noneChangesItsPointAlone() {
        Bench bench = Bench.full();
        String[] due = looks(bench);
        bench.use().none(1);
        due[1] = "NONE";
        dueLooks("after none(1)", bench, due);
        bench.holds("REGISTER 1 after none", 1, Model.FULL.subtract(Numbers.of(1001)));
    }

    private static void pointIs(BigInteger x, BigInteger y) {
        for (boolean overNone : new boolean[] {false, true}) {
            Bench bench = new Bench();
            if (!overNone) {
                bench.use().base(2);
            }
            bench.put(1, x);
            bench.put(3, y);
            Report.due("point of " + Bench.tell(x, y), bench.use().point(2, 1, 3), true);
            Report.due("point of " + Bench.tell(x, y), bench.look(2), Bench.tell(x, y));
        }
    }

    /** Promise 11: with (x, y), (x, FIELD - y) is a POINT too. */
    private static void pointTakesBothYs() {
        pointIs(BASE_X, BASE_Y);
        pointIs(BASE_X, FIELD.subtract(BASE_Y));
    }

    /** "below FIELD": the least x is 1 and the greatest FIELD - 3, the least y 1 and the greatest FIELD - 1. */
    private static void pointTakesTheEndsBelowField() {
        for (BigInteger x : new BigInteger[] {ONE, BigInteger.TWO, FIELD.subtract(Numbers.of(3))}) {
            BigInteger y = Model.evenRoot(Model.squareOfY(x));
            pointIs(x, y);
            pointIs(x, FIELD.subtract(y));
        }
        for (BigInteger y : new BigInteger[] {ONE, Numbers.of(6), Numbers.of(11)}) {
            pointIs(CurveFacts.xOfY(y), y);
            pointIs(CurveFacts.xOfY(y), FIELD.subtract(y));
        }
    }

    private static void pointIsACopyOfItsRegisters() {
        Bench bench = new Bench();
        bench.place(1, BASE_X, BASE_Y);
        bench.holds("its x stays in the REGISTER", 0, BASE_X);
        bench.holds("its y stays in the REGISTER", 1, BASE_Y);
        bench.put(0, 3);
        bench.put(1, 4);
        Report.due("POINT 1 after its REGISTERS changed", bench.look(1), BASE);
    }

    private static void liftIs(BigInteger x, boolean odd) {
        BigInteger even = Model.evenRoot(Model.squareOfY(x));
        for (boolean overNone : new boolean[] {false, true}) {
            Bench bench = new Bench();
            if (!overNone) {
                bench.use().base(1);
            }
            bench.put(2, x);
            Report.due("lift of " + x + ", odd " + odd, bench.use().lift(1, 2, odd), true);
            BigInteger due = odd ? FIELD.subtract(even) : even;
            Report.due("lift of " + x + ", odd " + odd, bench.look(1), Bench.tell(x, due));
        }
    }

    /** Promise 12. BASE's y is even. */
    private static void liftTakesTheYThatIsOddOrEven() {
        Bench bench = new Bench();
        bench.put(0, BASE_X);
        Report.due("lift of BASE's x, even", bench.use().lift(1, 0, false), true);
        Report.due("it is BASE", bench.look(1), BASE);
        Report.due("lift of BASE's x, odd", bench.use().lift(1, 0, true), true);
        Report.due("it is BASE's opposite", bench.look(1), Bench.tell(BASE_X, FIELD.subtract(BASE_Y)));
        BigInteger x = CurveFacts.xOfY(ONE);
        bench.put(0, x);
        Report.due("lift to the y 1", bench.use().lift(1, 0, true), true);
        Report.due("its y is 1", bench.look(1), Bench.tell(x, ONE));
        Report.due("lift to the y FIELD - 1", bench.use().lift(1, 0, false), true);
        Report.due("its y is FIELD - 1", bench.look(1), Bench.tell(x, FIELD.subtract(ONE)));
    }

    private static void liftTakesTheEndsBelowField() {
        for (boolean odd : new boolean[] {false, true}) {
            liftIs(ONE, odd);
            liftIs(BigInteger.TWO, odd);
            liftIs(FIELD.subtract(Numbers.of(3)), odd);
            liftIs(FIELD.subtract(Numbers.of(4)), odd);
        }
    }

    private static void liftIsACopyOfItsRegister() {
        Bench bench = new Bench();
        bench.put(0, BASE_X);
        bench.use().lift(0, 0, false);
        bench.holds("its x stays in the REGISTER", 0, BASE_X);
        bench.put(0, 3);
        Report.due("POINT 0 after its REGISTER changed", bench.look(0), BASE);
    }

    /** Promise 15. */
    private static void takeAnswersXOrY() {
        for (int r = 0; r < 4; r++) {
            for (int q = 0; q < 4; q++) {
                Bench bench = new Bench();
                bench.use().base(q);
                Report.due("take of x", bench.use().take(r, q, false), true);
                bench.holds("x of BASE", r, BASE_X);
                Report.due("take of y", bench.use().take(r, q, true), true);
                bench.holds("y of BASE", r, BASE_Y);
            }
        }
    }

    private static void takeChangesItsRegisterAlone() {
        Bench bench = Bench.full();
        String[] due = looks(bench);
        bench.use().base(3);
        due[3] = BASE;
        bench.use().take(1, 3, true);
        dueLooks("after take", bench, due);
        for (int r = 0; r < 4; r++) {
            BigInteger row = r == 1 ? BASE_Y : Model.FULL.subtract(Numbers.of(1000 + r));
            bench.holds("REGISTER " + r + " after take", r, row);
        }
    }

    private static void takeIsACopy() {
        Bench bench = new Bench();
        bench.use().base(0);
        bench.use().take(1, 0, false);
        bench.put(1, 3);
        Report.due("POINT 0 after the REGISTER changed", bench.look(0), BASE);
        bench.use().take(1, 0, true);
        bench.use().none(0);
        bench.holds("the REGISTER after the POINT changed", 1, BASE_Y);
    }

    private static void dueSame(String what, Bench bench, int a, int b, boolean due) {
        Report.due(what, bench.use().same(a, b), due);
        Report.due(what + ", the other way round", bench.use().same(b, a), due);
    }

    /** Promise 16. */
    private static void sameOfNoneAndNone() {
        Bench bench = new Bench();
        dueSame("NONE and NONE", bench, 0, 1, true);
        dueSame("NONE and itself", bench, 2, 2, true);
    }

    private static void sameOfNoneAndAPoint() {
        Bench bench = new Bench();
        bench.use().base(1);
        dueSame("NONE and BASE", bench, 0, 1, false);
    }

    private static void sameForgetsWhatAPointWas() {
        Bench bench = new Bench();
        bench.multipleOfBase(0, Numbers.of(3));
        bench.use().base(1);
        bench.use().base(2);
        bench.use().none(0);
        bench.use().none(1);
        dueSame("two that became NONE", bench, 0, 1, true);
        dueSame("one that became NONE and one that was always", bench, 1, 3, true);
        dueSame("BASE and what was BASE", bench, 1, 2, false);
    }

    private static void sameOfOpposites() {
        Bench bench = new Bench();
        bench.place(0, BASE_X, BASE_Y);
        bench.place(1, BASE_X, FIELD.subtract(BASE_Y));
        dueSame("(x, y) and (x, FIELD - y)", bench, 0, 1, false);
    }

    private static void sameOfPointsWithOneY() {
        Bench bench = new Bench();
        bench.use().base(0);
        bench.place(1, CurveFacts.thirdRootOfOne().multiply(BASE_X).mod(FIELD), BASE_Y);
        dueSame("two POINTS with one y", bench, 0, 1, false);
    }

    private static void sameOfAPointWithItself() {
        Bench bench = Bench.full();
        for (int q = 0; q < 4; q++) {
            for (int other = 0; other < 4; other++) {
                dueSame(q + " and " + other, bench, q, other, q == other);
            }
        }
    }

    private static void sameOfPointsThatCameByOtherWays() {
        Bench bench = new Bench();
        bench.use().base(0);
        bench.use().plus(1, 0, 0);
        bench.use().plus(1, 1, 0);
        bench.multipleOfBase(2, Numbers.of(3));
        dueSame("BASE + BASE + BASE and three times BASE", bench, 1, 2, true);
        bench.multipleOfBase(3, Model.ORDER.add(Numbers.of(3)));
        dueSame("three and ORDER + 3 times BASE", bench, 2, 3, true);
    }

    private static void sameChangesNothing() {
        Bench bench = Bench.full();
        String before = bench.picture();
        bench.use().same(0, 1);
        bench.use().same(2, 2);
        Report.due("what it holds after same", bench.picture(), before);
    }
}
