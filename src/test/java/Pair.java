import java.math.BigInteger;

/** A program and a model that are given the same calls; each answer is compared, and the state at the end. */
final class Pair {
    final KeyCurve program = new KeyCurve();
    final Model model = new Model();
    private final StringBuilder told = new StringBuilder();
    private int calls = 0;

    int calls() {
        return calls;
    }

    private String tell(String call) {
        calls++;
        if (told.length() > 0) {
            told.append("; ");
        }
        return told.append(call).toString();
    }

    void set(int r, int k, int v) {
        String run = tell("set(" + r + ", " + k + ", " + v + ")");
        Report.due(run, program.set(r, k, v), model.set(r, k, v));
    }

    void put(int r, BigInteger value) {
        for (int k = 0; k < 8; k++) {
            set(r, k, value.shiftRight(32 * k).intValue());
        }
    }

    void get(int r, int k) {
        String run = tell("get(" + r + ", " + k + ")");
        Report.due(run, program.get(r, k), model.get(r, k));
    }

    void add(int r, int a, int b, boolean order) {
        tell("add(" + r + ", " + a + ", " + b + ", " + order + ")");
        program.add(r, a, b, order);
        model.add(r, a, b, order);
    }

    void subtract(int r, int a, int b, boolean order) {
        tell("subtract(" + r + ", " + a + ", " + b + ", " + order + ")");
        program.subtract(r, a, b, order);
        model.subtract(r, a, b, order);
    }

    void multiply(int r, int a, int b, boolean order) {
        tell("multiply(" + r + ", " + a + ", " + b + ", " + order + ")");
        program.multiply(r, a, b, order);
        model.multiply(r, a, b, order);
    }

    void invert(int r, int a, boolean order) {
        String run = tell("invert(" + r + ", " + a + ", " + order + ")");
        Report.due(run, program.invert(r, a, order), model.invert(r, a, order));
    }

    void root(int r, int a) {
        String run = tell("root(" + r + ", " + a + ")");
        Report.due(run, program.root(r, a), model.root(r, a));
    }

    void base(int q) {
        tell("base(" + q + ")");
        program.base(q);
        model.base(q);
    }

    void none(int q) {
        tell("none(" + q + ")");
        program.none(q);
        model.none(q);
    }

    void point(int q, int a, int b) {
        String run = tell("point(" + q + ", " + a + ", " + b + ")");
        Report.due(run, program.point(q, a, b), model.point(q, a, b));
    }

    void lift(int q, int a, boolean odd) {
        String run = tell("lift(" + q + ", " + a + ", " + odd + ")");
        Report.due(run, program.lift(q, a, odd), model.lift(q, a, odd));
    }

    void plus(int q, int a, int b) {
        tell("plus(" + q + ", " + a + ", " + b + ")");
        program.plus(q, a, b);
        model.plus(q, a, b);
    }

    void times(int q, int a, int r) {
        tell("times(" + q + ", " + a + ", " + r + ")");
        program.times(q, a, r);
        model.times(q, a, r);
    }

    void take(int r, int q, boolean second) {
        String run = tell("take(" + r + ", " + q + ", " + second + ")");
        Report.due(run, program.take(r, q, second), model.take(r, q, second));
    }

    void same(int a, int b) {
        String run = tell("same(" + a + ", " + b + ")");
        Report.due(run, program.same(a, b), model.same(a, b));
    }

    /** Compares all REGISTERS and POINTS: some 120 calls, the last ones of the run, as REGISTER 3 is used up. */
    void end() {
        String run = told.toString();
        for (int r = 0; r < 4; r++) {
            Report.due(run + "; REGISTER " + r, read(r), model.registers[r]);
        }
        for (int a = 0; a < 4; a++) {
            for (int b = 0; b < 4; b++) {
                Report.due(run + "; same(" + a + ", " + b + ")", program.same(a, b), model.same(a, b));
            }
        }
        for (int q = 0; q < 4; q++) {
            Model.Place place = model.points[q];
            Report.due(run + "; x of POINT " + q, coordinate(q, false), place == null ? "NONE" : place.x());
            Report.due(run + "; y of POINT " + q, coordinate(q, true), place == null ? "NONE" : place.y());
        }
    }

    private BigInteger read(int r) {
        BigInteger value = BigInteger.ZERO;
        for (int k = 7; k >= 0; k--) {
            value = value.shiftLeft(32).add(Model.unsigned(program.get(r, k)));
        }
        return value;
    }

    private Object coordinate(int q, boolean second) {
        return program.take(3, q, second) ? read(3) : "NONE";
    }
}
