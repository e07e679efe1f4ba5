/** Promises 1 to 3: a new object, set, get. */
public final class RegistersTest {
    public static void main(String[] args) {
        newObject();
        setAndGet();
        onlyLowestBitsCount();
        objectsAreApart();
        Report.end();
    }

    private static void newObject() {
        KeyCurve x = new KeyCurve();
        for (int r = 0; r < 4; r++) {
            for (int k = 0; k < 8; k++) {
                Report.due("new: get(" + r + ", " + k + ")", x.get(r, k), 0);
            }
            Report.due("new: take(0, " + r + ", false)", x.take(0, r, false), false);
            Report.due("new: take(0, " + r + ", true)", x.take(0, r, true), false);
            Report.due("new: same(0, " + r + ")", x.same(0, r), true);
        }
        new Pair().end();
    }

    private static void setAndGet() {
        KeyCurve x = new KeyCurve();
        int[] values = {1, -1, Integer.MIN_VALUE, Integer.MAX_VALUE, 0, 0x12345678};
        for (int r = 0; r < 4; r++) {
            for (int k = 0; k < 8; k++) {
                int old = 0;
                for (int v : values) {
                    Report.due("set(" + r + ", " + k + ", " + v + ")", x.set(r, k, v), old);
                    old = v;
                }
                x.set(r, k, 100 * r + k - 200);
            }
        }
        for (int r = 0; r < 4; r++) {
            for (int k = 0; k < 8; k++) {
                Report.due("get(" + r + ", " + k + ")", x.get(r, k), 100 * r + k - 200);
            }
        }
    }

    private static void onlyLowestBitsCount() {
        int[] far = {0, 8, -8, 1 << 30, Integer.MIN_VALUE, 0x7FFFFFF8};
        for (int up : far) {
            for (int r = 0; r < 4; r++) {
                for (int k = 0; k < 8; k++) {
                    KeyCurve x = new KeyCurve();
                    x.set(r + up, k + up, 5);
                    Report.due("set(" + (r + up) + ", " + (k + up) + ", 5), get", x.get(r, k), 5);
                    Report.due("get(" + (r - up) + ", " + (k - up) + ")", x.get(r - up, k - up), 5);
                    Report.due("get beside", x.get(r + 1, k) | x.get(r, k + 1), 0);
                }
            }
        }
        KeyCurve x = new KeyCurve();
        x.set(-1, -1, 9);
        Report.due("set(-1, -1, 9), get(3, 7)", x.get(3, 7), 9);
        x.set(4, 9, 8);
        Report.due("set(4, 9, 8), get(0, 1)", x.get(0, 1), 8);
        Report.due("get(7, 15)", x.get(7, 15), 9);
    }

    private static void objectsAreApart() {
        KeyCurve x = new KeyCurve();
        KeyCurve y = new KeyCurve();
        x.set(0, 0, 5);
        x.base(0);
        Report.due("the other's REGISTER", y.get(0, 0), 0);
        Report.due("the other's POINT", y.take(1, 0, false), false);
    }
}
