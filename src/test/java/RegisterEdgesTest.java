import java.math.BigInteger;

/** The edges of "REGISTERS" in the Terms and of promises 1 to 3. */
public final class RegisterEdgesTest {
    private static final BigInteger LAST = Model.FULL.subtract(BigInteger.ONE);
    private static final int[] VALUES = {1, -1, Integer.MIN_VALUE, Integer.MAX_VALUE, 0};

    public static void main(String[] args) {
        registersAreZeroAtFirst();
        pointsAreNoneAtFirst();
        newObjectsShareNothing();
        registersGoUpToTwoToThe256LessOne();
        registersNotBelowAPrimeAreKeptWhole();
        wordZeroIsTheLowest();
        setAnswersWhatItWas();
        setChangesOneWordAlone();
        setKnowsItsRegisterByTwoBits();
        setKnowsItsWordByThreeBits();
        getKnowsItsRegisterByTwoBits();
        getKnowsItsWordByThreeBits();
        getChangesNothing();
        Report.end();
    }

    /** Promise 1. */
    private static void registersAreZeroAtFirst() {
        KeyCurve curve = new KeyCurve();
        for (int r = 0; r < 4; r++) {
            for (int k = 0; k < 8; k++) {
                Report.due("get(" + r + ", " + k + ") at first", curve.get(r, k), 0);
            }
        }
        curve = new KeyCurve();
        for (int r = 0; r < 4; r++) {
            for (int k = 0; k < 8; k++) {
                Report.due("set(" + r + ", " + k + ", 9) at first", curve.set(r, k, 9), 0);
            }
        }
    }

    private static void pointsAreNoneAtFirst() {
        KeyCurve curve = new KeyCurve();
        for (int q = 0; q < 4; q++) {
            Report.due("take(0, " + q + ", false) at first", curve.take(0, q, false), false);
            Report.due("take(0, " + q + ", true) at first", curve.take(0, q, true), false);
            curve.none(3);
            Report.due("same(" + q + ", 3) at first", curve.same(q, 3), true);
        }
    }

    private static void newObjectsShareNothing() {
        Bench first = Bench.full();
        first.use().base(0);
        Bench second = new Bench();
        for (int i = 0; i < 4; i++) {
            second.holds("REGISTER " + i + " of a second object", i, 0);
            Report.due("POINT " + i + " of a second object", second.look(i), "NONE");
        }
    }

    /** Terms: "whole numbers from 0 to 2^256 - 1". */
    private static void registersGoUpToTwoToThe256LessOne() {
        for (int r = 0; r < 4; r++) {
            Bench bench = new Bench();
            bench.put(r, LAST);
            bench.holds("2^256 - 1 in REGISTER " + r, r, LAST);
            for (int k = 0; k < 8; k++) {
                Report.due("its WORD " + k, bench.use().get(r, k), -1);
            }
            bench.put(r, 0);
            bench.holds("0 in REGISTER " + r, r, 0);
        }
    }

    private static void registersNotBelowAPrimeAreKeptWhole() {
        Bench bench = new Bench();
        bench.put(0, Model.FIELD);
        bench.put(1, Model.ORDER);
        bench.put(2, Model.FIELD.add(BigInteger.ONE));
        bench.put(3, Model.ORDER.add(BigInteger.ONE));
        bench.holds("FIELD", 0, Model.FIELD);
        bench.holds("ORDER", 1, Model.ORDER);
        bench.holds("FIELD + 1", 2, Model.FIELD.add(BigInteger.ONE));
        bench.holds("ORDER + 1", 3, Model.ORDER.add(BigInteger.ONE));
    }

    /** Terms: "WORD 0 the lowest 32 bits": what goes over in one goes to the next, the highest holds 2^255. */
    private static void wordZeroIsTheLowest() {
        for (int k = 0; k < 7; k++) {
            KeyCurve curve = new KeyCurve();
            curve.set(0, k, -1);
            curve.set(1, k, 1);
            curve.add(2, 0, 1, false);
            Report.due("WORD " + k + " after it went over", curve.get(2, k), 0);
            Report.due("WORD " + (k + 1) + " after it went over", curve.get(2, k + 1), 1);
        }
        KeyCurve curve = new KeyCurve();
        curve.set(0, 7, 1 << 30);
        curve.add(0, 0, 0, false);
        Report.due("WORD 7 of 2^255", curve.get(0, 7), Integer.MIN_VALUE);
        curve.add(0, 0, 0, false);
        Report.due("WORD 0 of 2^256 by FIELD", curve.get(0, 0), 977);
        Report.due("WORD 1 of 2^256 by FIELD", curve.get(0, 1), 1);
    }

    /** Promise 2: "what it was". */
    private static void setAnswersWhatItWas() {
        KeyCurve curve = new KeyCurve();
        for (int r = 0; r < 4; r++) {
            for (int k = 0; k < 8; k += 7) {
                int old = 0;
                for (int v : VALUES) {
                    Report.due("set(" + r + ", " + k + ", " + v + ")", curve.set(r, k, v), old);
                    Report.due("get(" + r + ", " + k + ")", curve.get(r, k), v);
                    old = v;
                }
            }
        }
    }

    private static void setChangesOneWordAlone() {
        for (int at = 0; at < 32; at++) {
            KeyCurve curve = new KeyCurve();
            for (int each = 0; each < 32; each++) {
                curve.set(each / 8, each % 8, -1 - each);
            }
            curve.set(at / 8, at % 8, 7);
            for (int each = 0; each < 32; each++) {
                int due = each == at ? 7 : -1 - each;
                Report.due("WORD " + each % 8 + " of REGISTER " + each / 8, curve.get(each / 8, each % 8), due);
            }
        }
    }

    /** Terms: "told by their number's lowest two bits". */
    private static void setKnowsItsRegisterByTwoBits() {
        for (int[] known : LowestBits.NUMBERS) {
            KeyCurve curve = new KeyCurve();
            curve.set(known[1], 0, 5);
            Report.due("set(" + known[0] + ", 0, 6)", curve.set(known[0], 0, 6), 5);
            for (int r = 0; r < 4; r++) {
                Report.due("REGISTER " + r + " then", curve.get(r, 0), r == known[1] ? 6 : 0);
            }
        }
    }

    /** Promise 2: "WORD k (its lowest three bits)". */
    private static void setKnowsItsWordByThreeBits() {
        for (int[] known : LowestBits.WORDS) {
            KeyCurve curve = new KeyCurve();
            curve.set(1, known[1], 5);
            Report.due("set(1, " + known[0] + ", 6)", curve.set(1, known[0], 6), 5);
            for (int k = 0; k < 8; k++) {
                Report.due("WORD " + k + " then", curve.get(1, k), k == known[1] ? 6 : 0);
            }
        }
    }

    private static void getKnowsItsRegisterByTwoBits() {
        for (int[] known : LowestBits.NUMBERS) {
            KeyCurve curve = new KeyCurve();
            for (int r = 0; r < 4; r++) {
                curve.set(r, 0, 50 + r);
            }
            Report.due("get(" + known[0] + ", 0)", curve.get(known[0], 0), 50 + known[1]);
        }
    }

    /** Promise 3: "WORD k (its lowest three bits)". */
    private static void getKnowsItsWordByThreeBits() {
        for (int[] known : LowestBits.WORDS) {
            KeyCurve curve = new KeyCurve();
            for (int k = 0; k < 8; k++) {
                curve.set(2, k, 60 + k);
            }
            Report.due("get(2, " + known[0] + ")", curve.get(2, known[0]), 60 + known[1]);
        }
    }

    private static void getChangesNothing() {
        Bench bench = Bench.full();
        String before = bench.picture();
        for (int r = 0; r < 4; r++) {
            for (int k = 0; k < 8; k++) {
                bench.use().get(r, k);
            }
        }
        Report.due("what it holds after get", bench.picture(), before);
    }
}
