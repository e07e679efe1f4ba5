import java.math.BigInteger;

/** The cases of "the sum of two POINTS" in the Terms, and the edges of promises 13 and 14. */
public final class SumEdgesTest {
    private static final BigInteger ONE = BigInteger.ONE;
    private static final BigInteger TWO = BigInteger.TWO;
    private static final BigInteger FIELD = Model.FIELD;
    private static final BigInteger ORDER = Model.ORDER;
    private static final BigInteger LAST = Model.FULL.subtract(ONE);
    private static final Model.Place BASE = Model.BASE;

    // As published for secp256k1.
    private static final Model.Place TWICE_BASE = new Model.Place(
        Numbers.hex("C6047F9441ED7D6D3045406E95C07CD85C778E4B8CEF3CA7ABAC09B95C709EE5"),
        Numbers.hex("1AE168FEA63DC339A3C58419466CEAEEF7F632653266D0E1236431A950CFE52A"));
    private static final Model.Place THRICE_BASE = new Model.Place(
        Numbers.hex("F9308A019258C31049344F85F89D5229B531C845836F99B08601F113BCE036F9"),
        Numbers.hex("388F7B0F632DE8140FE337E62A37F3566500A99934C2231B6CB9FD7584B8E672"));

    public static void main(String[] args) {
        noneAndNone();
        noneAndAPoint();
        aPointAndItsOpposite();
        aPointWithItself();
        aPointWithItsEqual();
        twoOtherPoints();
        twoPointsWithOneY();
        aLineThatTouchesInOneOfBoth();
        theThirdPointIsOnTheLine();
        theThirdPointIsOnTheTouchingLine();
        plusChangesItsTargetAlone();
        timesZero();
        timesOneTwoThree();
        timesOfNone();
        timesAroundOrder();
        timesFieldIsNotZero();
        timesTheLargestNumbers();
        timesEachBit();
        timesIsAddingSoOften();
        timesChangesItsTargetAlone();
        Report.end();
    }

    private static Model.Place opposite(Model.Place place) {
        return new Model.Place(place.x(), FIELD.subtract(place.y()));
    }

    private static Model.Place[] places() {
        BigInteger third = CurveFacts.thirdRootOfOne();
        return new Model.Place[] {
            BASE, TWICE_BASE, lifted(ONE), lifted(TWO), lifted(FIELD.subtract(Numbers.of(3))),
            new Model.Place(CurveFacts.xOfY(ONE), ONE),
            new Model.Place(CurveFacts.xOfY(Numbers.of(6)), Numbers.of(6)),
            new Model.Place(third.multiply(BASE.x()).mod(FIELD), BASE.y())};
    }

    private static Model.Place lifted(BigInteger x) {
        return new Model.Place(x, Model.evenRoot(Model.squareOfY(x)));
    }

    private static void put(Bench bench, int q, Model.Place place) {
        bench.place(q, place.x(), place.y());
    }

    private static String tell(Model.Place place) {
        return Bench.tell(place.x(), place.y());
    }

    private static void dueSum(Model.Place a, Model.Place b, String due) {
        Bench bench = new Bench();
        put(bench, 0, a);
        put(bench, 1, b);
        bench.use().base(2);
        bench.use().plus(2, 0, 1);
        Report.due("plus of " + tell(a) + " and " + tell(b), bench.look(2), due);
        bench.use().plus(3, 1, 0);
        Report.due("plus of " + tell(b) + " and " + tell(a), bench.look(3), due);
    }

    /** "NONE and another one that one". */
    private static void noneAndNone() {
        Bench bench = new Bench();
        bench.use().base(2);
        bench.use().plus(2, 0, 1);
        Report.due("NONE + NONE", bench.look(2), "NONE");
        bench.use().base(2);
        bench.use().plus(2, 0, 0);
        Report.due("NONE + NONE, the same one", bench.look(2), "NONE");
        bench.use().plus(0, 0, 0);
        Report.due("NONE + NONE into itself", bench.look(0), "NONE");
    }

    private static void noneAndAPoint() {
        for (Model.Place place : places()) {
            Bench bench = new Bench();
            put(bench, 1, place);
            bench.use().plus(2, 0, 1);
            Report.due("NONE + a POINT", bench.look(2), tell(place));
            bench.use().plus(3, 1, 0);
            Report.due("a POINT + NONE", bench.look(3), tell(place));
            bench.use().plus(1, 1, 0);
            Report.due("a POINT + NONE into itself", bench.look(1), tell(place));
            bench.use().plus(0, 0, 1);
            Report.due("NONE + a POINT into NONE", bench.look(0), tell(place));
        }
    }

    /** "of (x, y) and (x, FIELD - y) NONE". */
    private static void aPointAndItsOpposite() {
        for (Model.Place place : places()) {
            dueSum(place, opposite(place), "NONE");
        }
    }

    /** "or, of one with itself, on the line that touches there". */
    private static void aPointWithItself() {
        Bench bench = new Bench();
        bench.use().base(0);
        bench.use().plus(1, 0, 0);
        Report.due("BASE + BASE", bench.look(1), tell(TWICE_BASE));
        bench.use().plus(0, 0, 0);
        Report.due("BASE + BASE into itself", bench.look(0), tell(TWICE_BASE));
    }

    private static void aPointWithItsEqual() {
        dueSum(BASE, BASE, tell(TWICE_BASE));
        dueSum(opposite(BASE), opposite(BASE), tell(opposite(TWICE_BASE)));
    }

    private static void twoOtherPoints() {
        dueSum(BASE, TWICE_BASE, tell(THRICE_BASE));
        dueSum(opposite(BASE), opposite(TWICE_BASE), tell(opposite(THRICE_BASE)));
        dueSum(THRICE_BASE, opposite(BASE), tell(TWICE_BASE));
        dueSum(THRICE_BASE, opposite(TWICE_BASE), tell(BASE));
    }

    /** The line through both is level: its third POINT has that y too. */
    private static void twoPointsWithOneY() {
        BigInteger third = CurveFacts.thirdRootOfOne();
        Model.Place second = new Model.Place(third.multiply(BASE.x()).mod(FIELD), BASE.y());
        Model.Place last = new Model.Place(third.multiply(second.x()).mod(FIELD), BASE.y());
        dueSum(BASE, second, tell(opposite(last)));
        dueSum(second, last, tell(opposite(BASE)));
        dueSum(BASE, last, tell(opposite(second)));
    }

    /** The line through P and the opposite of P + P touches in P: that is the third POINT as well. */
    private static void aLineThatTouchesInOneOfBoth() {
        dueSum(BASE, opposite(TWICE_BASE), tell(opposite(BASE)));
        dueSum(opposite(BASE), TWICE_BASE, tell(BASE));
    }

    /** "else the third POINT on the line through both, its y taken from FIELD". */
    private static void theThirdPointIsOnTheLine() {
        for (Model.Place a : places()) {
            for (Model.Place b : places()) {
                if (!a.x().equals(b.x())) {
                    checkThird(a, b, b.y().subtract(a.y()), b.x().subtract(a.x()));
                    Model.Place c = opposite(b);
                    checkThird(a, c, c.y().subtract(a.y()), c.x().subtract(a.x()));
                }
            }
        }
    }

    private static void theThirdPointIsOnTheTouchingLine() {
        for (Model.Place place : places()) {
            for (Model.Place a : new Model.Place[] {place, opposite(place)}) {
                checkThird(a, a, a.x().pow(2).multiply(Numbers.of(3)), a.y().shiftLeft(1));
            }
        }
    }

    /** A line that rises so much over so long a run meets the curve where the three x add up to (rise / run)^2. */
    private static void checkThird(Model.Place a, Model.Place b, BigInteger rise, BigInteger run) {
        Bench bench = new Bench();
        put(bench, 0, a);
        put(bench, 1, b);
        bench.use().plus(2, 0, 1);
        bench.use().take(0, 2, false);
        bench.use().take(1, 2, true);
        BigInteger x = bench.read(0);
        BigInteger y = bench.read(1);
        String what = "plus of " + tell(a) + " and " + tell(b);
        Report.due(what + ": below FIELD", x.max(y).compareTo(FIELD) < 0, true);
        Report.due(what + ": a POINT", y.pow(2).mod(FIELD), Model.squareOfY(x));
        BigInteger sumOfX = a.x().add(b.x()).add(x);
        Report.due(what + ": the x", sumOfX.multiply(run.pow(2)).mod(FIELD), rise.pow(2).mod(FIELD));
        BigInteger lineRise = FIELD.subtract(y).subtract(a.y());
        Report.due(what + ": the y", lineRise.multiply(run).mod(FIELD), x.subtract(a.x()).multiply(rise).mod(FIELD));
    }

    private static void plusChangesItsTargetAlone() {
        Bench bench = Bench.full();
        String[] due = {bench.look(0), bench.look(1), null, bench.look(3)};
        bench.use().plus(2, 0, 1);
        for (int q = 0; q < 4; q++) {
            if (q != 2) {
                Report.due("POINT " + q + " after plus", bench.look(q), due[q]);
            }
            bench.holds("REGISTER " + q + " after plus", q, Model.FULL.subtract(Numbers.of(1000 + q)));
        }
    }

    private static void dueMultiple(Model.Place place, BigInteger number, String due) {
        Bench bench = new Bench();
        put(bench, 1, place);
        bench.put(2, number);
        bench.use().base(3);
        bench.use().times(3, 1, 2);
        Report.due(number + " times " + tell(place), bench.look(3), due);
        bench.use().times(1, 1, 2);
        Report.due(number + " times " + tell(place) + " into itself", bench.look(1), due);
    }

    /** Promise 14: added to itself no time at all, a POINT is NONE. */
    private static void timesZero() {
        for (Model.Place place : places()) {
            dueMultiple(place, BigInteger.ZERO, "NONE");
        }
    }

    private static void timesOneTwoThree() {
        for (Model.Place place : places()) {
            dueMultiple(place, ONE, tell(place));
        }
        dueMultiple(BASE, TWO, tell(TWICE_BASE));
        dueMultiple(BASE, Numbers.of(3), tell(THRICE_BASE));
    }

    private static void timesOfNone() {
        for (BigInteger number : new BigInteger[] {BigInteger.ZERO, ONE, TWO, ORDER, ORDER.add(ONE), LAST}) {
            Bench bench = new Bench();
            bench.put(2, number);
            bench.use().base(3);
            bench.use().times(3, 1, 2);
            Report.due(number + " times NONE", bench.look(3), "NONE");
            Report.due("and NONE stays", bench.look(1), "NONE");
        }
    }

    /** ORDER times any POINT is NONE; on the way to ORDER + 2 a POINT meets itself. */
    private static void timesAroundOrder() {
        for (Model.Place place : places()) {
            dueMultiple(place, ORDER.subtract(ONE), tell(opposite(place)));
            dueMultiple(place, ORDER, "NONE");
            dueMultiple(place, ORDER.add(ONE), tell(place));
        }
        dueMultiple(BASE, ORDER.subtract(Numbers.of(3)), tell(opposite(THRICE_BASE)));
        dueMultiple(BASE, ORDER.subtract(TWO), tell(opposite(TWICE_BASE)));
        dueMultiple(BASE, ORDER.add(TWO), tell(TWICE_BASE));
        dueMultiple(BASE, ORDER.add(Numbers.of(3)), tell(THRICE_BASE));
        dueMultiple(TWICE_BASE, ORDER.add(ONE).shiftRight(1), tell(BASE));
    }

    private static void sameMultiples(BigInteger first, BigInteger second) {
        Bench bench = new Bench();
        bench.use().base(0);
        bench.put(0, first);
        bench.put(1, second);
        bench.use().times(1, 0, 0);
        bench.use().times(2, 0, 1);
        Report.due(first + " and " + second + " times BASE", bench.use().same(1, 2), true);
        Report.due("they are not NONE", bench.use().same(1, 3), false);
    }

    /** The REGISTER counts whole: not by FIELD, and past ORDER the multiples come again. */
    private static void timesFieldIsNotZero() {
        sameMultiples(FIELD, FIELD.subtract(ORDER));
        sameMultiples(FIELD.add(ONE), FIELD.add(ONE).subtract(ORDER));
    }

    private static void timesTheLargestNumbers() {
        sameMultiples(LAST, LAST.subtract(ORDER));
        sameMultiples(LAST.subtract(ONE), LAST.subtract(ONE).subtract(ORDER));
    }

    /** No bit is lost, the highest of a WORD and of the REGISTER among them. */
    private static void timesEachBit() {
        Bench bench = new Bench();
        bench.use().base(0);
        bench.use().base(1);
        for (int bit = 0; bit < 256; bit++) {
            if (bit % 32 == 0 || bit % 32 == 31) {
                bench.use().set(0, bit / 32, 1 << bit % 32);
                bench.use().times(2, 0, 0);
                Report.due("2^" + bit + " times BASE", bench.use().same(1, 2), true);
                bench.use().set(0, bit / 32, 0);
            }
            bench.use().plus(1, 1, 1);
        }
    }

    private static void timesIsAddingSoOften() {
        Bench bench = new Bench();
        bench.use().base(0);
        for (int number = 0; number < 40; number++) {
            bench.use().set(0, 0, number);
            bench.use().times(2, 0, 0);
            Report.due(number + " times BASE", bench.use().same(1, 2), true);
            bench.use().plus(1, 1, 0);
        }
    }

    private static void timesChangesItsTargetAlone() {
        Bench bench = Bench.full();
        String[] due = {bench.look(0), bench.look(1), null, bench.look(3)};
        bench.use().times(2, 0, 1);
        for (int q = 0; q < 4; q++) {
            if (q != 2) {
                Report.due("POINT " + q + " after times", bench.look(q), due[q]);
            }
            bench.holds("REGISTER " + q + " after times", q, Model.FULL.subtract(Numbers.of(1000 + q)));
        }
    }
}
