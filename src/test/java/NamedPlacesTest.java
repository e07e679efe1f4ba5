import java.math.BigInteger;
import java.util.Arrays;

/**
 * Terms: "REGISTERS and POINTS are told by their number's lowest two bits. The target may be one of the
 * sources." Of every call and every number that it takes.
 */
public final class NamedPlacesTest {
    private static final int SIDES = 4;

    /** A call of the face with its numbers in a row; a void call answers "". */
    private interface Face {
        Object on(KeyCurve curve, int[] at, boolean flag);
    }

    /** A call whose target and sources are of one kind, and whether it was not refused. */
    private interface Reckoning {
        boolean on(KeyCurve curve, int target, int a, int b);
    }

    public static void main(String[] args) {
        lowestBits("add", 3, (x, at, flag) -> done(() -> x.add(at[0], at[1], at[2], flag)));
        lowestBits("subtract", 3, (x, at, flag) -> done(() -> x.subtract(at[0], at[1], at[2], flag)));
        lowestBits("multiply", 3, (x, at, flag) -> done(() -> x.multiply(at[0], at[1], at[2], flag)));
        lowestBits("invert", 2, (x, at, flag) -> x.invert(at[0], at[1], flag));
        lowestBits("root", 2, (x, at, flag) -> x.root(at[0], at[1]));
        lowestBits("base", 1, (x, at, flag) -> done(() -> x.base(at[0])));
        lowestBits("none", 1, (x, at, flag) -> done(() -> x.none(at[0])));
        lowestBits("point", 3, (x, at, flag) -> x.point(at[0], at[1], at[2]));
        lowestBits("lift", 2, (x, at, flag) -> x.lift(at[0], at[1], flag));
        lowestBits("plus", 3, (x, at, flag) -> done(() -> x.plus(at[0], at[1], at[2])));
        lowestBits("times", 3, (x, at, flag) -> done(() -> x.times(at[0], at[1], at[2])));
        lowestBits("take", 2, (x, at, flag) -> x.take(at[0], at[1], flag));
        lowestBits("same", 2, (x, at, flag) -> x.same(at[0], at[1]));
        for (boolean order : new boolean[] {false, true}) {
            registerTargetIsASource("add", (x, r, a, b) -> did(() -> x.add(r, a, b, order)));
            registerTargetIsASource("subtract", (x, r, a, b) -> did(() -> x.subtract(r, a, b, order)));
            registerTargetIsASource("multiply", (x, r, a, b) -> did(() -> x.multiply(r, a, b, order)));
            registerTargetIsASource("invert", (x, r, a, b) -> x.invert(r, a, order));
        }
        registerTargetIsASource("root", (x, r, a, b) -> x.root(r, a));
        pointTargetIsASource("plus", (x, q, a, b) -> did(() -> x.plus(q, a, b)));
        pointTargetIsASource("times", (x, q, a, b) -> did(() -> x.times(q, a, b)));
        Report.end();
    }

    private static Object done(Runnable call) {
        call.run();
        return "";
    }

    private static boolean did(Runnable call) {
        call.run();
        return true;
    }

    /** Four POINTS, and in the REGISTERS, turned by side, a POINT's x and y, another x, and the opposite y. */
    private static Bench fourOfEach(int side) {
        Bench bench = new Bench();
        bench.placeFour();
        BigInteger[] rows = {
            Model.BASE.x(), Model.BASE.y(), BigInteger.TWO, Model.FIELD.subtract(Model.BASE.y())};
        for (int r = 0; r < 4; r++) {
            bench.put(r + side, rows[r]);
        }
        return bench;
    }

    private static void lowestBits(String name, int count, Face call) {
        for (int place = 0; place < count; place++) {
            for (int[] known : LowestBits.NUMBERS) {
                for (int side = 0; side < SIDES; side++) {
                    int[] wide = {side + 2 & 3, side, side + 1 & 3};
                    int[] plain = wide.clone();
                    wide[place] = known[0];
                    plain[place] = known[1];
                    sameOutcome(name, call, side, wide, plain);
                }
            }
        }
    }

    private static void sameOutcome(String name, Face call, int side, int[] wide, int[] plain) {
        Bench first = fourOfEach(side);
        Bench second = fourOfEach(side);
        String what = name + " at " + Arrays.toString(wide) + " as at " + Arrays.toString(plain);
        boolean flag = (side & 1) != 0;
        Report.due(what, call.on(first.use(), wide, flag), call.on(second.use(), plain, flag));
        Report.due(what + ": what it holds", first.picture(), second.picture());
    }

    /** What comes out is what comes out in a REGISTER that is no source, and the others stay. */
    private static void registerTargetIsASource(String name, Reckoning call) {
        for (int i = 0; i < 4 * 4 * 4; i++) {
            int r = i & 3;
            int a = i >> 2 & 3;
            int b = i >> 4;
            Bench apart = fourOfEach(0);
            boolean isThere = call.on(apart.use(), beside(a, b), a, b);
            BigInteger due = apart.read(beside(a, b));
            Bench bench = fourOfEach(0);
            BigInteger[] rows = {bench.read(0), bench.read(1), bench.read(2), bench.read(3)};
            String what = name + " at " + r + ", " + a + ", " + b;
            Report.due(what, call.on(bench.use(), r, a, b), isThere);
            rows[r] = isThere ? due : rows[r];
            for (int each = 0; each < 4; each++) {
                bench.holds(what + ": REGISTER " + each, each, rows[each]);
            }
        }
    }

    private static void pointTargetIsASource(String name, Reckoning call) {
        for (int i = 0; i < 4 * 4 * 4; i++) {
            int q = i & 3;
            int a = i >> 2 & 3;
            int b = i >> 4;
            Bench apart = fourOfEach(0);
            call.on(apart.use(), beside(a, b), a, b);
            String due = apart.look(beside(a, b));
            Bench bench = fourOfEach(0);
            String[] places = {bench.look(0), bench.look(1), bench.look(2), bench.look(3)};
            call.on(bench.use(), q, a, b);
            places[q] = due;
            for (int each = 0; each < 4; each++) {
                String what = name + " at " + q + ", " + a + ", " + b + ": POINT " + each;
                Report.due(what, bench.look(each), places[each]);
            }
        }
    }

    /** A number that is neither. */
    private static int beside(int a, int b) {
        int at = 0;
        while (at == a || at == b) {
            at++;
        }
        return at;
    }
}
