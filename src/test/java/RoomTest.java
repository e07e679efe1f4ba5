import com.sun.management.ThreadMXBean;
import java.lang.management.ManagementFactory;
import java.lang.reflect.Array;
import java.lang.reflect.Field;
import java.lang.reflect.Modifier;
import java.util.IdentityHashMap;
import java.util.Map;

/**
 * All calls of one run share one room of some 600,000 objects: a new object takes little of it, and
 * a call takes nothing.
 */
public final class RoomTest {
    private static final int MOST_OBJECTS = 100;
    private static final int MOST_ELEMENTS = 1000;
    private static final int CALLS = 512;
    private static final int CALLS_OF_READY = 17;
    // The least object takes 16 bytes, so this is far below one object a call.
    private static final long MOST_BYTES = 4L * CALLS;

    /** One call, made again and again. */
    private interface Call {
        void on(KeyCurve curve);
    }

    public static void main(String[] args) throws IllegalAccessException {
        roomOfANewObject();
        roomOfTheCalls();
        Report.end();
    }

    private static void roomOfANewObject() throws IllegalAccessException {
        Map<Object, Integer> sizes = new IdentityHashMap<>();
        measure(new KeyCurve(), sizes);
        int elements = 0;
        for (int size : sizes.values()) {
            elements += size;
        }
        Report.due("objects of a new object: " + sizes.size(), sizes.size() <= MOST_OBJECTS, true);
        Report.due("elements of a new object: " + elements, elements <= MOST_ELEMENTS, true);
    }

    /** Notes how many fields or elements this object has, and each that it leads to. */
    private static void measure(Object at, Map<Object, Integer> sizes) throws IllegalAccessException {
        if (at == null || sizes.containsKey(at)) {
            return;
        }
        if (at.getClass().isArray()) {
            sizes.put(at, Array.getLength(at));
            for (int i = 0; !at.getClass().getComponentType().isPrimitive() && i < Array.getLength(at); i++) {
                measure(Array.get(at, i), sizes);
            }
            return;
        }
        sizes.put(at, 0);
        for (Field field : at.getClass().getDeclaredFields()) {
            if (!Modifier.isStatic(field.getModifiers())) {
                sizes.merge(at, 1, Integer::sum);
                measureField(at, field, sizes);
            }
        }
    }

    private static void measureField(Object of, Field field, Map<Object, Integer> sizes)
            throws IllegalAccessException {
        if (!field.getType().isPrimitive()) {
            field.setAccessible(true);
            measure(field.get(of), sizes);
        }
    }

    private static void roomOfTheCalls() {
        check("set", curve -> curve.set(1, 2, 3));
        check("get", curve -> curve.get(1, 2));
        check("add", curve -> curve.add(2, 0, 1, false));
        check("subtract", curve -> curve.subtract(2, 0, 1, true));
        check("multiply", curve -> curve.multiply(2, 0, 1, true));
        check("invert", curve -> curve.invert(2, 0, true));
        check("root", curve -> curve.root(2, 0));
        check("base", curve -> curve.base(1));
        check("none", curve -> curve.none(1));
        check("point", curve -> curve.point(1, 0, 1));
        check("lift", curve -> curve.lift(1, 1, true));
        check("plus", curve -> curve.plus(1, 0, 0));
        check("times", curve -> curve.times(1, 0, 0));
        check("take", curve -> curve.take(2, 0, true));
        check("same", curve -> curve.same(0, 0));
    }

    private static void check(String name, Call call) {
        // The first round loads classes, which takes room of its own.
        bytesOf(call);
        long bytes = bytesOf(call);
        Report.due(name + ": bytes made in one object's calls: " + bytes, bytes <= MOST_BYTES, true);
    }

    private static long bytesOf(Call call) {
        ThreadMXBean threads = (ThreadMXBean) ManagementFactory.getThreadMXBean();
        KeyCurve curve = ready();
        long before = threads.getCurrentThreadAllocatedBytes();
        for (int i = CALLS_OF_READY; i < CALLS; i++) {
            call.on(curve);
        }
        return threads.getCurrentThreadAllocatedBytes() - before;
    }

    /** REGISTER 0 is all ones, the dearest for times; REGISTER 1 is the x 1; POINT 0 is BASE. */
    private static KeyCurve ready() {
        KeyCurve curve = new KeyCurve();
        for (int k = 0; k < 8; k++) {
            curve.set(0, k, -1);
            curve.set(1, k, k == 0 ? 1 : 0);
        }
        curve.base(0);
        return curve;
    }
}
