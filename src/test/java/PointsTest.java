import java.math.BigInteger;

/** Promises 9 to 16: base, none, point, lift, plus, times, take, same. */
public final class PointsTest {
    public static void main(String[] args) {
        baseAndNone();
        pointsThatAreAndAreNot();
        lifts();
        takes();
        sames();
        sums();
        sumsIntoSources();
        knownMultiples();
        multiples();
        multiplesIntoSources();
        numbersAreToldByTheirLowestBits();
        Report.end();
    }

    private static void baseAndNone() {
        for (int q = -5; q < 9; q++) {
            Pair pair = new Pair();
            pair.base(q);
            pair.end();
            pair = new Pair();
            for (int each = 0; each < 4; each++) {
                pair.base(each);
            }
            pair.none(q);
            pair.end();
        }
    }

    private static void pointsThatAreAndAreNot() {
        BigInteger x = Model.BASE.x();
        BigInteger y = Model.BASE.y();
        onePoint(x, y);
        onePoint(x, Model.FIELD.subtract(y));
        onePoint(x, y.add(BigInteger.ONE));
        onePoint(x.add(BigInteger.ONE), y);
        onePoint(y, x);
        onePoint(BigInteger.ZERO, BigInteger.ZERO);
        // Of a small x or y, the number with FIELD added has the same rest, but is no coordinate.
        for (int small = 0; small < 40; small++) {
            BigInteger smallX = Numbers.of(small);
            BigInteger itsY = Model.evenRoot(Model.squareOfY(smallX));
            if (itsY != null) {
                onePoint(smallX, itsY);
                onePoint(smallX.add(Model.FIELD), itsY);
            }
        }
        BigInteger itsX = CurveFacts.xOfY(BigInteger.ONE);
        onePoint(itsX, BigInteger.ONE);
        onePoint(itsX, Model.FIELD.add(BigInteger.ONE));
        for (BigInteger a : Numbers.edges()) {
            for (BigInteger b : Numbers.edges()) {
                onePoint(a, b);
            }
        }
    }

    private static void onePoint(BigInteger x, BigInteger y) {
        Pair pair = new Pair();
        pair.base(1);
        pair.put(0, x);
        pair.put(1, y);
        pair.point(1, 0, 1);
        pair.end();
    }

    private static void lifts() {
        KeyCurve x = new KeyCurve();
        x.set(0, 0, 5);
        x.base(0);
        Report.due("no POINT has the x 5", x.lift(0, 0, true), false);
        Report.due("nothing changes", x.take(1, 0, false), true);
        Report.due("it is BASE still", x.get(1, 0), 0x16F81798);
        Numbers numbers = new Numbers(12);
        for (BigInteger edge : Numbers.edges()) {
            bothLifts(edge);
        }
        for (int small = 0; small < 40; small++) {
            bothLifts(Numbers.of(small));
            bothLifts(Model.FIELD.add(Numbers.of(small)));
        }
        for (int i = 0; i < 40; i++) {
            bothLifts(numbers.mixed());
        }
        bothLifts(Model.BASE.x());
    }

    private static void bothLifts(BigInteger x) {
        for (boolean odd : new boolean[] {false, true}) {
            Pair pair = new Pair();
            pair.base(2);
            pair.put(1, x);
            pair.lift(2, 1, odd);
            pair.end();
        }
    }

    private static void takes() {
        for (int r = 0; r < 4; r++) {
            for (boolean second : new boolean[] {false, true}) {
                Pair pair = new Pair();
                pair.put(r, Numbers.of(3));
                pair.take(r, 2, second);
                pair.base(2);
                pair.take(r, 2, second);
                pair.end();
                pair = new Pair();
                pair.put(r, Numbers.of(3));
                pair.base(1);
                pair.none(1);
                pair.take(r, 1, second);
                pair.end();
            }
        }
        // What was taken is a copy: the POINT stays as it is when the REGISTER changes.
        Pair pair = new Pair();
        pair.base(0);
        pair.take(0, 0, false);
        pair.set(0, 0, 1);
        pair.end();
    }

    private static void sames() {
        Pair pair = new Pair();
        pair.same(0, 1);
        pair.base(0);
        pair.same(0, 1);
        pair.same(1, 0);
        pair.same(0, 0);
        pair.base(1);
        pair.same(0, 1);
        pair.none(1);
        pair.same(0, 1);
        pair.take(0, 0, false);
        pair.lift(1, 0, true);
        pair.lift(2, 0, false);
        pair.same(0, 1);
        pair.same(0, 2);
        pair.same(1, 2);
        sameY(pair);
        pair.end();
    }

    /** BASE's x times a third root of 1 is another POINT's x with the same y. */
    private static void sameY(Pair pair) {
        pair.put(0, CurveFacts.thirdRootOfOne().multiply(Model.BASE.x()).mod(Model.FIELD));
        pair.put(1, Model.BASE.y());
        pair.point(3, 0, 1);
        pair.same(0, 3);
        pair.plus(2, 0, 3);
    }

    private static void sums() {
        Numbers numbers = new Numbers(13);
        Model.Place[] places = new Model.Place[12];
        places[1] = Model.BASE;
        for (int i = 2; i < places.length; i += 2) {
            Model.Place place = scattered(numbers);
            places[i] = place;
            places[i + 1] = new Model.Place(place.x(), Model.FIELD.subtract(place.y()));
        }
        for (Model.Place a : places) {
            for (Model.Place b : places) {
                Pair pair = new Pair();
                put(pair, 0, a);
                put(pair, 1, b);
                pair.plus(2, 0, 1);
                pair.plus(3, 2, 1);
                pair.end();
            }
        }
    }

    private static Model.Place scattered(Numbers numbers) {
        BigInteger x = numbers.scattered(255);
        while (Model.evenRoot(Model.squareOfY(x)) == null) {
            x = x.add(BigInteger.ONE);
        }
        return new Model.Place(x, Model.evenRoot(Model.squareOfY(x)));
    }

    private static void put(Pair pair, int q, Model.Place place) {
        if (place == null) {
            pair.none(q);
        } else {
            pair.put(0, place.x());
            pair.put(1, place.y());
            pair.point(q, 0, 1);
        }
    }

    private static void sumsIntoSources() {
        Numbers numbers = new Numbers(14);
        for (int i = 0; i < 64; i++) {
            Pair pair = new Pair();
            put(pair, 0, scattered(numbers));
            put(pair, 1, scattered(numbers));
            put(pair, 2, i % 3 == 0 ? null : scattered(numbers));
            pair.base(3);
            pair.plus(i & 3, i >> 2 & 3, i >> 4);
            pair.end();
        }
    }

    /** Multiples of BASE as they are published for secp256k1. */
    private static void knownMultiples() {
        known("3",
            "F9308A019258C31049344F85F89D5229B531C845836F99B08601F113BCE036F9",
            "388F7B0F632DE8140FE337E62A37F3566500A99934C2231B6CB9FD7584B8E672");
        known("AA5E28D6A97A2479A65527F7290311A3624D4CC0FA1578598EE3C2613BF99522",
            "34F9460F0E4F08393D192B3C5133A6BA099AA0AD9FD54EBCCFACDFA239FF49C6",
            "0B71EA9BD730FD8923F6D25A7A91E7DD7728A960686CB5A901BB419E0F2CA232");
    }

    private static void known(String number, String x, String y) {
        Pair pair = new Pair();
        pair.put(0, Numbers.hex(number));
        pair.base(0);
        pair.times(0, 0, 0);
        Report.due(number + " BASE", pair.model.points[0],
            new Model.Place(Numbers.hex(x), Numbers.hex(y)));
        pair.end();
    }

    private static void multiples() {
        Numbers numbers = new Numbers(15);
        for (BigInteger edge : Numbers.edges()) {
            oneMultiple(Model.BASE, edge);
            oneMultiple(null, edge);
            oneMultiple(scattered(numbers), edge);
        }
        for (int small = 0; small < 20; small++) {
            oneMultiple(Model.BASE, Numbers.of(small));
            oneMultiple(Model.BASE, Model.ORDER.add(Numbers.of(small)));
            oneMultiple(Model.BASE, Model.ORDER.subtract(Numbers.of(small)));
        }
        for (int i = 0; i < 40; i++) {
            oneMultiple(scattered(numbers), numbers.mixed());
        }
    }

    private static void oneMultiple(Model.Place place, BigInteger number) {
        Pair pair = new Pair();
        put(pair, 1, place);
        pair.put(2, number);
        pair.times(3, 1, 2);
        pair.end();
    }

    private static void multiplesIntoSources() {
        Numbers numbers = new Numbers(16);
        for (int i = 0; i < 64; i++) {
            Pair pair = new Pair();
            put(pair, i >> 2 & 3, scattered(numbers));
            for (int r = 0; r < 4; r++) {
                pair.put(r, numbers.mixed());
            }
            pair.times(i & 3, i >> 2 & 3, i >> 4);
            pair.times(i & 3, i & 3, i >> 2 & 3);
            pair.end();
        }
    }

    private static void numbersAreToldByTheirLowestBits() {
        Numbers numbers = new Numbers(17);
        for (int i = 0; i < 40; i++) {
            Pair pair = new Pair();
            for (int each = 0; each < 4; each++) {
                put(pair, each, scattered(numbers));
            }
            for (int each = 0; each < 4; each++) {
                pair.put(each, numbers.scattered(255));
            }
            pair.base(numbers.any());
            pair.plus(numbers.any(), numbers.any(), numbers.any());
            pair.times(numbers.any(), numbers.any(), numbers.any());
            pair.take(numbers.any(), numbers.any(), numbers.coin());
            pair.same(numbers.any(), numbers.any());
            pair.lift(numbers.any(), numbers.any(), numbers.coin());
            pair.take(-4, -3, false);
            pair.take(-7, 5, true);
            pair.point(numbers.any() | 2, 8, -3);
            pair.none(numbers.any());
            pair.end();
        }
    }
}
