import java.math.BigInteger;

/** The edges of promises 4 to 8, each with the number that is due told here. */
public final class NumberEdgesTest {
    private static final BigInteger ZERO = BigInteger.ZERO;
    private static final BigInteger ONE = BigInteger.ONE;
    private static final BigInteger TWO = BigInteger.TWO;
    private static final BigInteger FIELD = Model.FIELD;
    private static final BigInteger ORDER = Model.ORDER;
    private static final BigInteger LAST = Model.FULL.subtract(ONE);
    private static final boolean[] BOTH = {false, true};

    /** One of the calls that reckon with two REGISTERS. */
    private interface Reckoning {
        void on(KeyCurve curve, int r, int a, int b, boolean order);
    }

    public static void main(String[] args) {
        thePrimes();
        addWrapsAtThePrime();
        addOfNumbersNotBelowThePrime();
        addBeyondTwoToThe256();
        addCarriesThroughAllWords();
        subtractWrapsBelowZero();
        subtractOfNumbersNotBelowThePrime();
        subtractOfANumberFromItself();
        subtractBorrowsThroughAllWords();
        multiplyByZeroAndOne();
        multiplyWrapsAtThePrime();
        multiplyWrapsLate();
        multiplyOfNumbersNotBelowThePrime();
        multiplyOfTheLargestNumbers();
        multiplyCarriesBetweenWords();
        theFlagChoosesThePrime();
        invertOfTheEnds();
        invertOfNumbersNotBelowThePrime();
        rootOfZero();
        rootIsTheEvenOne();
        rootOfNumbersNotBelowField();
        sourcesStayAsTheyAre();
        Report.end();
    }

    private static BigInteger prime(boolean order) {
        return order ? ORDER : FIELD;
    }

    private static BigInteger gap(boolean order) {
        return Model.FULL.subtract(prime(order));
    }

    private static void due(String what, Reckoning call, BigInteger a, BigInteger b, boolean order, BigInteger due) {
        Bench bench = new Bench();
        bench.put(0, a);
        bench.put(1, b);
        bench.put(2, 12345);
        call.on(bench.use(), 2, 0, 1, order);
        bench.holds(what + " of " + a + " and " + b + ", order " + order, 2, due);
    }

    private static void sum(BigInteger a, BigInteger b, boolean order, BigInteger due) {
        due("add", KeyCurve::add, a, b, order, due);
        due("add", KeyCurve::add, b, a, order, due);
    }

    private static void difference(BigInteger a, BigInteger b, boolean order, BigInteger due) {
        due("subtract", KeyCurve::subtract, a, b, order, due);
    }

    private static void product(BigInteger a, BigInteger b, boolean order, BigInteger due) {
        due("multiply", KeyCurve::multiply, a, b, order, due);
        due("multiply", KeyCurve::multiply, b, a, order, due);
    }

    /** Terms: FIELD and ORDER, as they come out of 0 - 1. */
    private static void thePrimes() {
        difference(ZERO, ONE, false, Numbers.hex("FFFFFFFFFFFFFFFFFFFFFFFFFFFFFFFFFFFFFFFFFFFFFFFFFFFFFFFEFFFFFC2E"));
        difference(ZERO, ONE, true, Numbers.hex("FFFFFFFFFFFFFFFFFFFFFFFFFFFFFFFEBAAEDCE6AF48A03BBFD25E8CD0364140"));
    }

    private static void addWrapsAtThePrime() {
        for (boolean order : BOTH) {
            BigInteger prime = prime(order);
            sum(ZERO, ZERO, order, ZERO);
            sum(prime.subtract(TWO), ONE, order, prime.subtract(ONE));
            sum(prime.subtract(ONE), ZERO, order, prime.subtract(ONE));
            sum(prime.subtract(ONE), ONE, order, ZERO);
            sum(prime.subtract(ONE), TWO, order, ONE);
            sum(prime.subtract(ONE), prime.subtract(ONE), order, prime.subtract(TWO));
            sum(prime.shiftRight(1), prime.shiftRight(1), order, prime.subtract(ONE));
            sum(prime.shiftRight(1).add(ONE), prime.shiftRight(1), order, ZERO);
        }
    }

    /** REGISTERS go up to 2^256 - 1: what is not below the prime counts by its rest. */
    private static void addOfNumbersNotBelowThePrime() {
        for (boolean order : BOTH) {
            BigInteger prime = prime(order);
            sum(prime, ZERO, order, ZERO);
            sum(prime, ONE, order, ONE);
            sum(prime.add(ONE), ZERO, order, ONE);
            sum(prime, prime, order, ZERO);
            sum(prime, prime.subtract(ONE), order, prime.subtract(ONE));
            sum(prime.add(ONE), prime.add(ONE), order, TWO);
            sum(LAST, ZERO, order, gap(order).subtract(ONE));
        }
    }

    private static void addBeyondTwoToThe256() {
        for (boolean order : BOTH) {
            BigInteger gap = gap(order);
            sum(LAST, ONE, order, gap);
            sum(LAST, TWO, order, gap.add(ONE));
            sum(LAST, prime(order), order, gap.subtract(ONE));
            sum(LAST, LAST, order, gap.add(gap).subtract(TWO));
            sum(ONE.shiftLeft(255), ONE.shiftLeft(255), order, gap);
            sum(ONE.shiftLeft(255), ONE.shiftLeft(255).subtract(ONE), order, gap.subtract(ONE));
            sum(LAST, Model.FULL.subtract(gap).add(ONE), order, gap);
        }
    }

    private static void addCarriesThroughAllWords() {
        for (boolean order : BOTH) {
            for (int bits = 32; bits < 256; bits += 32) {
                sum(ONE.shiftLeft(bits).subtract(ONE), ONE, order, ONE.shiftLeft(bits));
            }
            sum(ONE.shiftLeft(255).subtract(ONE), ONE, order, ONE.shiftLeft(255));
        }
    }

    private static void subtractWrapsBelowZero() {
        for (boolean order : BOTH) {
            BigInteger prime = prime(order);
            difference(ZERO, ZERO, order, ZERO);
            difference(ONE, ONE, order, ZERO);
            difference(TWO, ONE, order, ONE);
            difference(ZERO, ONE, order, prime.subtract(ONE));
            difference(ONE, TWO, order, prime.subtract(ONE));
            difference(ZERO, prime.subtract(ONE), order, ONE);
            difference(prime.subtract(ONE), ZERO, order, prime.subtract(ONE));
            difference(prime.subtract(TWO), prime.subtract(ONE), order, prime.subtract(ONE));
        }
    }

    private static void subtractOfNumbersNotBelowThePrime() {
        for (boolean order : BOTH) {
            BigInteger prime = prime(order);
            BigInteger gap = gap(order);
            difference(prime, ZERO, order, ZERO);
            difference(ZERO, prime, order, ZERO);
            difference(prime, ONE, order, prime.subtract(ONE));
            difference(ONE, prime, order, ONE);
            difference(prime.add(ONE), ZERO, order, ONE);
            difference(ZERO, prime.add(ONE), order, prime.subtract(ONE));
            difference(LAST, ZERO, order, gap.subtract(ONE));
            difference(ZERO, LAST, order, prime.subtract(gap).add(ONE));
            difference(ONE, LAST, order, prime.subtract(gap).add(TWO));
            difference(gap.subtract(ONE), LAST, order, ZERO);
            difference(gap.subtract(TWO), LAST, order, prime.subtract(ONE));
            difference(gap, LAST, order, ONE);
            difference(LAST, LAST.subtract(ONE), order, ONE);
            difference(LAST.subtract(ONE), LAST, order, prime.subtract(ONE));
        }
    }

    private static void subtractOfANumberFromItself() {
        for (boolean order : BOTH) {
            for (BigInteger a : Numbers.edges()) {
                difference(a, a, order, ZERO);
            }
        }
    }

    private static void subtractBorrowsThroughAllWords() {
        for (boolean order : BOTH) {
            for (int bits = 32; bits < 256; bits += 32) {
                difference(ONE.shiftLeft(bits), ONE, order, ONE.shiftLeft(bits).subtract(ONE));
            }
            difference(ONE.shiftLeft(255), ONE, order, ONE.shiftLeft(255).subtract(ONE));
        }
    }

    private static void multiplyByZeroAndOne() {
        for (boolean order : BOTH) {
            for (BigInteger a : Numbers.edges()) {
                product(a, ZERO, order, ZERO);
                product(a, ONE, order, a.mod(prime(order)));
            }
        }
    }

    private static void multiplyWrapsAtThePrime() {
        for (boolean order : BOTH) {
            BigInteger prime = prime(order);
            BigInteger half = prime.shiftRight(1);
            product(half, TWO, order, prime.subtract(ONE));
            product(half.add(ONE), TWO, order, ONE);
            product(prime.subtract(ONE), TWO, order, prime.subtract(TWO));
            product(prime.subtract(ONE), prime.subtract(ONE), order, ONE);
            product(prime.subtract(ONE), Numbers.of(5), order, prime.subtract(Numbers.of(5)));
        }
    }

    /** Products whose rest is close to 2^256 less the prime, or to its double: a reduction turns over late there. */
    private static void multiplyWrapsLate() {
        for (boolean order : BOTH) {
            BigInteger prime = prime(order);
            for (int times = 0; times < 4; times++) {
                for (int over = -2; over < 3; over++) {
                    BigInteger rest = gap(order).multiply(Numbers.of(times)).add(Numbers.of(over)).mod(prime);
                    product(prime.subtract(ONE), prime.subtract(rest), order, rest);
                }
            }
        }
    }

    private static void multiplyOfNumbersNotBelowThePrime() {
        for (boolean order : BOTH) {
            BigInteger prime = prime(order);
            for (BigInteger a : Numbers.edges()) {
                product(prime, a, order, ZERO);
                product(prime.add(ONE), a, order, a.mod(prime));
            }
            product(prime.add(TWO), prime.add(TWO), order, Numbers.of(4));
        }
    }

    private static void multiplyOfTheLargestNumbers() {
        for (boolean order : BOTH) {
            BigInteger prime = prime(order);
            BigInteger rest = gap(order).subtract(ONE);
            product(LAST, LAST, order, rest.multiply(rest).mod(prime));
            product(LAST, LAST.subtract(ONE), order, rest.multiply(rest.subtract(ONE)).mod(prime));
            product(LAST, prime.subtract(ONE), order, prime.subtract(rest));
            product(ONE.shiftLeft(255), TWO, order, gap(order));
            product(ONE.shiftLeft(128), ONE.shiftLeft(128), order, gap(order));
            product(ONE.shiftLeft(255), ONE.shiftLeft(255), order, ONE.shiftLeft(510).mod(prime));
        }
    }

    private static void multiplyCarriesBetweenWords() {
        BigInteger word = Numbers.of(0xFFFFFFFFL);
        BigInteger half = ONE.shiftLeft(128).subtract(ONE);
        for (boolean order : BOTH) {
            product(word, word, order, Numbers.hex("FFFFFFFE00000001"));
            product(ONE.shiftLeft(32), ONE.shiftLeft(32), order, ONE.shiftLeft(64));
            product(ONE.shiftLeft(96), ONE.shiftLeft(128), order, ONE.shiftLeft(224));
            product(half, ONE.shiftLeft(127), order, half.shiftLeft(127));
            product(half, half, order, half.multiply(half));
        }
    }

    /** "modulo ORDER (order) or FIELD": ORDER is below FIELD, and 0 by its own prime alone. */
    private static void theFlagChoosesThePrime() {
        sum(ORDER, ZERO, true, ZERO);
        sum(ORDER, ZERO, false, ORDER);
        sum(FIELD, ZERO, false, ZERO);
        sum(FIELD, ZERO, true, FIELD.subtract(ORDER));
        difference(ORDER, ZERO, true, ZERO);
        difference(ORDER, ZERO, false, ORDER);
        difference(FIELD, ZERO, false, ZERO);
        difference(FIELD, ZERO, true, FIELD.subtract(ORDER));
        product(ORDER, ONE, true, ZERO);
        product(ORDER, ONE, false, ORDER);
        product(FIELD, ONE, false, ZERO);
        product(FIELD, ONE, true, FIELD.subtract(ORDER));
    }

    private static void inverse(BigInteger a, boolean order, BigInteger due) {
        Bench bench = new Bench();
        bench.put(1, a);
        bench.put(2, 12345);
        Report.due("invert of " + a + ", order " + order, bench.use().invert(2, 1, order), true);
        bench.holds("invert of " + a + ", order " + order, 2, due);
        bench.use().multiply(2, 2, 1, order);
        bench.holds("its product with " + a + ", order " + order, 2, ONE);
    }

    private static void invertOfTheEnds() {
        for (boolean order : BOTH) {
            BigInteger prime = prime(order);
            BigInteger half = prime.add(ONE).shiftRight(1);
            inverse(ONE, order, ONE);
            inverse(TWO, order, half);
            inverse(half, order, TWO);
            inverse(prime.subtract(ONE), order, prime.subtract(ONE));
            inverse(prime.subtract(TWO), order, prime.subtract(half));
        }
    }

    private static void invertOfNumbersNotBelowThePrime() {
        for (boolean order : BOTH) {
            BigInteger prime = prime(order);
            inverse(prime.add(ONE), order, ONE);
            inverse(prime.add(TWO), order, prime.add(ONE).shiftRight(1));
            inverse(LAST, order, gap(order).subtract(ONE).modInverse(prime));
            inverse(LAST.subtract(ONE), order, gap(order).subtract(TWO).modInverse(prime));
        }
    }

    private static void root(BigInteger a, BigInteger due) {
        Bench bench = new Bench();
        bench.put(1, a);
        bench.put(2, 12345);
        Report.due("root of " + a, bench.use().root(2, 1), true);
        bench.holds("root of " + a, 2, due);
    }

    /** "(0 of 0)", and true: FIELD is 0 modulo itself. */
    private static void rootOfZero() {
        root(ZERO, ZERO);
        root(FIELD, ZERO);
    }

    private static void rootIsTheEvenOne() {
        root(ONE, FIELD.subtract(ONE));
        root(Numbers.of(4), TWO);
        root(Numbers.of(9), FIELD.subtract(Numbers.of(3)));
        root(Numbers.of(16), Numbers.of(4));
        BigInteger half = FIELD.shiftRight(1);
        root(half.multiply(half).mod(FIELD), half.testBit(0) ? FIELD.subtract(half) : half);
    }

    private static void rootOfNumbersNotBelowField() {
        root(FIELD.add(ONE), FIELD.subtract(ONE));
        root(FIELD.add(Numbers.of(4)), TWO);
        root(FIELD.add(Numbers.of(9)), FIELD.subtract(Numbers.of(3)));
        root(LAST, Model.evenRoot(LAST.subtract(FIELD)));
        root(LAST.subtract(ONE), Model.evenRoot(LAST.subtract(ONE).subtract(FIELD)));
    }

    private static void sourcesStayAsTheyAre() {
        for (boolean order : BOTH) {
            Bench bench = new Bench();
            bench.put(0, LAST);
            bench.put(1, prime(order).add(ONE));
            bench.use().add(2, 0, 1, order);
            bench.use().subtract(2, 0, 1, order);
            bench.use().multiply(2, 0, 1, order);
            bench.use().invert(2, 0, order);
            bench.use().invert(2, 1, order);
            bench.use().root(2, 0);
            bench.use().root(2, 1);
            bench.holds("the source 2^256 - 1, order " + order, 0, LAST);
            bench.holds("the source prime + 1, order " + order, 1, prime(order).add(ONE));
            bench.holds("the REGISTER beside", 3, ZERO);
        }
    }
}
