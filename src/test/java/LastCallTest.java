import java.math.BigInteger;

/** "An object is used for at most 512 calls after it has been made": up to the last, all promises hold. */
public final class LastCallTest {
    private static final int LAST_CALL = Bench.MOST_CALLS;
    // What a check of REGISTERS or of one POINT may need at the end of a run.
    private static final int ROOM = 60;
    private static final BigInteger LAST = Model.FULL.subtract(BigInteger.ONE);

    public static void main(String[] args) {
        setUpToTheLast();
        getUpToTheLast();
        addUpToTheLast();
        subtractUpToTheLast();
        multiplyUpToTheLast();
        invertUpToTheLast();
        invertRefusedUpToTheLast();
        rootUpToTheLast();
        rootRefusedUpToTheLast();
        baseAndNoneUpToTheLast();
        pointUpToTheLast();
        pointRefusedUpToTheLast();
        liftUpToTheLast();
        liftRefusedUpToTheLast();
        plusUpToTheLast();
        timesUpToTheLast();
        takeUpToTheLast();
        takeRefusedUpToTheLast();
        sameUpToTheLast();
        Report.end();
    }

    private static boolean hasCalls(Bench bench, int kept) {
        return bench.calls() < LAST_CALL - kept;
    }

    private static void setUpToTheLast() {
        Bench bench = new Bench();
        int old = 0;
        while (hasCalls(bench, 0)) {
            int v = bench.calls() * 0x01234567 - 1;
            Report.due("set as call " + (bench.calls() + 1), bench.use().set(2, 7, v), old);
            old = v;
        }
    }

    private static void getUpToTheLast() {
        Bench bench = new Bench();
        bench.put(3, LAST.subtract(Numbers.of(4)));
        while (hasCalls(bench, 0)) {
            Report.due("get as call " + (bench.calls() + 1), bench.use().get(3, 0), -5);
        }
    }

    private static void addUpToTheLast() {
        Bench bench = new Bench();
        bench.put(0, LAST);
        bench.put(1, LAST);
        BigInteger due = LAST;
        while (hasCalls(bench, ROOM)) {
            bench.use().add(0, 0, 1, true);
            due = due.add(LAST).mod(Model.ORDER);
        }
        bench.holds("the sum at the end", 0, due);
        bench.holds("its source at the end", 1, LAST);
    }

    private static void subtractUpToTheLast() {
        Bench bench = new Bench();
        bench.put(1, LAST);
        BigInteger due = BigInteger.ZERO;
        while (hasCalls(bench, ROOM)) {
            bench.use().subtract(0, 0, 1, false);
            due = due.subtract(LAST).mod(Model.FIELD);
        }
        bench.holds("the difference at the end", 0, due);
        bench.holds("its source at the end", 1, LAST);
    }

    private static void multiplyUpToTheLast() {
        Bench bench = new Bench();
        bench.put(0, LAST);
        bench.put(1, LAST);
        BigInteger due = LAST;
        while (hasCalls(bench, ROOM)) {
            bench.use().multiply(0, 0, 1, true);
            due = due.multiply(LAST).mod(Model.ORDER);
        }
        bench.holds("the product at the end", 0, due);
        bench.holds("its source at the end", 1, LAST);
    }

    private static void invertUpToTheLast() {
        Bench bench = new Bench();
        bench.put(0, 3);
        while (hasCalls(bench, 2)) {
            Report.due("invert as call " + (bench.calls() + 1), bench.use().invert(0, 0, true), true);
        }
        // 502 times turned over.
        Report.due("the lowest WORD", bench.use().get(0, 0), 3);
        Report.due("invert as call 512", bench.use().invert(0, 0, true), true);
    }

    private static void invertRefusedUpToTheLast() {
        Bench bench = new Bench();
        bench.put(0, Model.ORDER);
        while (hasCalls(bench, 1)) {
            Report.due("invert as call " + (bench.calls() + 1), bench.use().invert(0, 0, true), false);
        }
        Report.due("the lowest WORD as call 512", bench.use().get(0, 0), 0xD0364141);
    }

    private static void rootUpToTheLast() {
        Bench bench = new Bench();
        bench.put(0, 9);
        while (hasCalls(bench, 1)) {
            Report.due("root as call " + (bench.calls() + 1), bench.use().root(1, 0), true);
        }
        Report.due("the lowest WORD as call 512", bench.use().get(1, 0), 0xFFFFFC2C);
    }

    private static void rootRefusedUpToTheLast() {
        Bench bench = new Bench();
        bench.put(0, 3);
        while (hasCalls(bench, 1)) {
            Report.due("root as call " + (bench.calls() + 1), bench.use().root(0, 0), false);
        }
        Report.due("the lowest WORD as call 512", bench.use().get(0, 0), 3);
    }

    private static void baseAndNoneUpToTheLast() {
        Bench bench = new Bench();
        while (hasCalls(bench, 4)) {
            bench.use().base(1);
            bench.use().none(1);
        }
        Report.due("take as call 509", bench.use().take(0, 1, true), false);
        bench.use().base(1);
        Report.due("take as call 511", bench.use().take(0, 1, true), true);
        Report.due("get as call 512", bench.use().get(0, 0), 0xFB10D4B8);
    }

    private static void pointUpToTheLast() {
        Bench bench = new Bench();
        bench.put(0, Model.BASE.x());
        bench.put(1, Model.BASE.y());
        while (hasCalls(bench, 0)) {
            Report.due("point as call " + (bench.calls() + 1), bench.use().point(bench.calls(), 0, 1), true);
        }
    }

    private static void pointRefusedUpToTheLast() {
        Bench bench = new Bench();
        bench.put(0, Model.BASE.y());
        bench.put(1, Model.BASE.x());
        while (hasCalls(bench, 1)) {
            Report.due("point as call " + (bench.calls() + 1), bench.use().point(0, 0, 1), false);
        }
        Report.due("take as call 512", bench.use().take(0, 0, false), false);
    }

    private static void liftUpToTheLast() {
        Bench bench = new Bench();
        bench.put(0, Model.BASE.x());
        while (hasCalls(bench, 0)) {
            Report.due("lift as call " + (bench.calls() + 1), bench.use().lift(1, 0, true), true);
        }
    }

    private static void liftRefusedUpToTheLast() {
        Bench bench = new Bench();
        bench.put(0, 5);
        while (hasCalls(bench, 1)) {
            Report.due("lift as call " + (bench.calls() + 1), bench.use().lift(1, 0, true), false);
        }
        Report.due("take as call 512", bench.use().take(0, 1, false), false);
    }

    /** As many POINTS further as calls were made. */
    private static void plusUpToTheLast() {
        Bench bench = new Bench();
        bench.use().base(0);
        int number = 0;
        while (hasCalls(bench, 3)) {
            bench.use().plus(1, 1, 0);
            number++;
        }
        bench.use().set(0, 0, number);
        bench.use().times(2, 0, 0);
        Report.due("same as call 512", bench.use().same(1, 2), true);
    }

    /** The dearest call: every bit of its number is set. */
    private static void timesUpToTheLast() {
        Bench bench = new Bench();
        bench.use().base(0);
        bench.use().base(1);
        bench.put(0, LAST);
        BigInteger number = BigInteger.ONE;
        while (hasCalls(bench, ROOM)) {
            bench.use().times(0, 0, 0);
            number = number.multiply(LAST).mod(Model.ORDER);
        }
        bench.put(1, number);
        bench.use().times(1, 1, 1);
        Report.due("same after times", bench.use().same(0, 1), true);
    }

    private static void takeUpToTheLast() {
        Bench bench = new Bench();
        bench.use().base(2);
        while (hasCalls(bench, 1)) {
            Report.due("take as call " + (bench.calls() + 1), bench.use().take(1, 2, false), true);
        }
        Report.due("get as call 512", bench.use().get(1, 0), 0x16F81798);
    }

    private static void takeRefusedUpToTheLast() {
        Bench bench = new Bench();
        bench.use().set(1, 0, 7);
        while (hasCalls(bench, 1)) {
            Report.due("take as call " + (bench.calls() + 1), bench.use().take(1, 2, false), false);
        }
        Report.due("get as call 512", bench.use().get(1, 0), 7);
    }

    private static void sameUpToTheLast() {
        Bench bench = new Bench();
        bench.use().base(2);
        while (hasCalls(bench, 0)) {
            int other = bench.calls() & 3;
            Report.due("same as call " + (bench.calls() + 1), bench.use().same(2, other), other == 2);
        }
    }
}
