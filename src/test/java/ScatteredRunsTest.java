/** Long runs of scattered calls of the whole face, up to the 512 that an object is used for. */
public final class ScatteredRunsTest {
    private static final int RUNS = 300;
    private static final int SHARED_RUNS = 20;
    // Even if all went to one object, it would stay within its 512 calls.
    private static final int STEPS_OF_A_SHARED_RUN = 40;
    // What a run's end needs to look at the whole state.
    private static final int CALLS_OF_THE_END = 120;
    private static final int CALLS_OF_ONE_STEP = 9;

    public static void main(String[] args) {
        oneObjectAfterAnother();
        severalObjectsAtOnce();
        Report.end();
    }

    private static void oneObjectAfterAnother() {
        for (int run = 0; run < RUNS; run++) {
            Numbers numbers = new Numbers(1000 + run);
            int last = run % 3 == 0 ? 512 - CALLS_OF_THE_END - CALLS_OF_ONE_STEP : 1 + numbers.below(100);
            Pair pair = new Pair();
            while (pair.calls() < last) {
                step(pair, numbers);
            }
            pair.end();
        }
    }

    /** No object sees what is done to another: each keeps to a model of its own. */
    private static void severalObjectsAtOnce() {
        for (int run = 0; run < SHARED_RUNS; run++) {
            Numbers numbers = new Numbers(2000 + run);
            Pair[] pairs = {new Pair(), new Pair(), new Pair()};
            for (int i = 0; i < STEPS_OF_A_SHARED_RUN; i++) {
                step(pairs[numbers.below(pairs.length)], numbers);
            }
            for (Pair pair : pairs) {
                pair.end();
            }
        }
    }

    private static void step(Pair pair, Numbers numbers) {
        int a = numbers.any();
        int b = numbers.any();
        int c = numbers.any();
        boolean flag = numbers.coin();
        switch (numbers.below(18)) {
            case 0, 1 -> pair.put(a, numbers.mixed());
            case 2 -> pair.set(a, b, c);
            case 3 -> pair.get(a, b);
            case 4 -> pair.add(a, b, c, flag);
            case 5 -> pair.subtract(a, b, c, flag);
            case 6 -> pair.multiply(a, b, c, flag);
            case 7 -> pair.invert(a, b, flag);
            case 8 -> pair.root(a, b);
            case 9 -> pair.base(a);
            case 10 -> none(pair, numbers, a);
            case 11 -> pair.point(a, b, c);
            case 12 -> pair.lift(a, b, flag);
            case 13 -> pair.plus(a, b, c);
            case 14 -> pair.times(a, b, c);
            case 15 -> pair.take(a, b, flag);
            case 16 -> moveAPoint(pair, a, b);
            default -> pair.same(a, b);
        }
    }

    /** Only now and then, or most POINTS of a run would be NONE. */
    private static void none(Pair pair, Numbers numbers, int q) {
        if (numbers.below(4) == 0) {
            pair.none(q);
        }
    }

    /** Scattered numbers are hardly ever a POINT, so one that is goes out and in again. */
    private static void moveAPoint(Pair pair, int from, int to) {
        pair.take(0, from, false);
        pair.take(1, from, true);
        pair.point(to, 0, 1);
    }
}
