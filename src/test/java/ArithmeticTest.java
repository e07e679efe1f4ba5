import java.math.BigInteger;

/** Promises 4 to 8: add, subtract, multiply, invert, root. */
public final class ArithmeticTest {
    public static void main(String[] args) {
        smallNumbers();
        edgesByEdges();
        productsNearTheEnds();
        inverses();
        roots();
        targetIsASource();
        numbersAreToldByTheirLowestBits();
        Report.end();
    }

    private static void smallNumbers() {
        KeyCurve x = new KeyCurve();
        x.set(0, 0, 6);
        x.set(1, 0, 4);
        x.add(2, 0, 1, false);
        Report.due("6 + 4", x.get(2, 0), 10);
        x.subtract(2, 0, 1, true);
        Report.due("6 - 4", x.get(2, 0), 2);
        x.multiply(2, 0, 1, true);
        Report.due("6 4", x.get(2, 0), 24);
        x.subtract(2, 1, 0, false);
        Report.due("4 - 6, lowest word by FIELD", x.get(2, 0), 0xFFFFFC2D);
        x.subtract(2, 1, 0, true);
        Report.due("4 - 6, lowest word by ORDER", x.get(2, 0), 0xD036413F);
        Report.due("the sources", x.get(0, 0) * 10 + x.get(1, 0), 64);
    }

    private static void edgesByEdges() {
        Numbers numbers = new Numbers(4);
        BigInteger[] some = new BigInteger[Numbers.edges().length + 30];
        System.arraycopy(Numbers.edges(), 0, some, 0, Numbers.edges().length);
        for (int i = Numbers.edges().length; i < some.length; i++) {
            some[i] = numbers.mixed();
        }
        for (BigInteger a : some) {
            for (BigInteger b : some) {
                eachOperation(a, b, false);
                eachOperation(a, b, true);
            }
        }
    }

    private static void eachOperation(BigInteger a, BigInteger b, boolean order) {
        for (int operation = 0; operation < 3; operation++) {
            Pair pair = new Pair();
            pair.put(0, a);
            pair.put(1, b);
            if (operation == 0) {
                pair.add(2, 0, 1, order);
            } else if (operation == 1) {
                pair.subtract(2, 0, 1, order);
            } else {
                pair.multiply(2, 0, 1, order);
            }
            pair.end();
        }
    }

    /** Products that come out close to 0 and to 2^256 - prime, where a reduction turns over last. */
    private static void productsNearTheEnds() {
        Numbers numbers = new Numbers(5);
        for (boolean order : new boolean[] {false, true}) {
            BigInteger prime = Model.prime(order);
            BigInteger gap = Model.FULL.subtract(prime);
            for (int i = 0; i < 400; i++) {
                BigInteger shift = i % 2 == 0 ? Numbers.of(i / 2 % 20 - 10) : numbers.scattered(1 + i % 140);
                BigInteger wanted = gap.multiply(Numbers.of(i % 4)).add(shift).mod(prime);
                BigInteger a = numbers.scattered(256).setBit(255 - i % 3);
                BigInteger b = a.modInverse(prime).multiply(wanted).mod(prime);
                Pair pair = new Pair();
                pair.put(0, a);
                pair.put(1, b);
                pair.multiply(2, 0, 1, order);
                Report.due("the product", pair.model.registers[2], wanted);
                pair.end();
            }
        }
    }

    private static void inverses() {
        Numbers numbers = new Numbers(6);
        for (boolean order : new boolean[] {false, true}) {
            for (BigInteger edge : Numbers.edges()) {
                oneInverse(edge, order);
            }
            for (int i = 0; i < 60; i++) {
                oneInverse(numbers.mixed(), order);
            }
        }
    }

    private static void oneInverse(BigInteger a, boolean order) {
        Pair pair = new Pair();
        pair.put(1, a);
        pair.put(2, Numbers.of(77));
        pair.invert(2, 1, order);
        pair.end();
    }

    private static void roots() {
        KeyCurve x = new KeyCurve();
        x.set(1, 0, 5);
        x.set(0, 0, 3);
        Report.due("root of 3", x.root(1, 0), false);
        Report.due("nothing changes", x.get(1, 0), 5);
        x.set(0, 0, 4);
        Report.due("root of 4", x.root(1, 0), true);
        Report.due("it is 2", x.get(1, 0), 2);
        x.set(0, 0, 9);
        Report.due("root of 9", x.root(1, 0), true);
        Report.due("it is FIELD - 3, the even one", x.get(1, 0), 0xFFFFFC2C);
        Numbers numbers = new Numbers(8);
        for (BigInteger edge : Numbers.edges()) {
            oneRoot(edge);
        }
        for (int i = 0; i < 60; i++) {
            BigInteger a = numbers.mixed();
            oneRoot(a);
            oneRoot(a.multiply(a).mod(Model.FIELD));
        }
        for (int small = 0; small < 20; small++) {
            oneRoot(Numbers.of(small));
            oneRoot(Model.FIELD.add(Numbers.of(small)));
        }
    }

    private static void oneRoot(BigInteger a) {
        Pair pair = new Pair();
        pair.put(1, a);
        pair.put(2, Numbers.of(78));
        pair.root(2, 1);
        pair.end();
    }

    private static void targetIsASource() {
        Numbers numbers = new Numbers(9);
        for (int i = 0; i < 4 * 4 * 4 * 2; i++) {
            int r = i & 3;
            int a = i >> 2 & 3;
            int b = i >> 4 & 3;
            boolean order = i >> 6 != 0;
            for (int operation = 0; operation < 5; operation++) {
                Pair pair = new Pair();
                for (int each = 0; each < 4; each++) {
                    pair.put(each, numbers.mixed());
                }
                calculate(pair, operation, r, a, b, order);
                pair.end();
            }
        }
    }

    private static void calculate(Pair pair, int operation, int r, int a, int b, boolean order) {
        switch (operation) {
            case 0 -> pair.add(r, a, b, order);
            case 1 -> pair.subtract(r, a, b, order);
            case 2 -> pair.multiply(r, a, b, order);
            case 3 -> pair.invert(r, a, order);
            default -> pair.root(r, a);
        }
    }

    private static void numbersAreToldByTheirLowestBits() {
        Numbers numbers = new Numbers(10);
        for (int i = 0; i < 100; i++) {
            Pair pair = new Pair();
            for (int each = 0; each < 4; each++) {
                pair.put(each, numbers.scattered(256));
            }
            calculate(pair, i % 5, numbers.any(), numbers.any(), numbers.any(), numbers.coin());
            pair.end();
        }
    }
}
