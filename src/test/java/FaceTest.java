import java.lang.reflect.Constructor;
import java.lang.reflect.Field;
import java.lang.reflect.Method;
import java.lang.reflect.Modifier;
import java.util.TreeSet;

/** The class shows the face of the document and no more (LANGUAGE.md, rules 1 and 5). */
public final class FaceTest {
    private static final String[] FACE = {
        "int set(int, int, int)", "int get(int, int)",
        "void add(int, int, int, boolean)", "void subtract(int, int, int, boolean)",
        "void multiply(int, int, int, boolean)", "boolean invert(int, int, boolean)",
        "boolean root(int, int)", "void base(int)", "void none(int)", "boolean point(int, int, int)",
        "boolean lift(int, int, boolean)", "void plus(int, int, int)", "void times(int, int, int)",
        "boolean take(int, int, boolean)", "boolean same(int, int)"};

    public static void main(String[] args) {
        int modifiers = KeyCurve.class.getModifiers();
        Report.due("public and final", Modifier.isPublic(modifiers) && Modifier.isFinal(modifiers), true);
        Report.due("extends nothing", KeyCurve.class.getSuperclass(), Object.class);
        Report.due("implements nothing", KeyCurve.class.getInterfaces().length, 0);
        checkMethods();
        checkConstructors();
        checkFields(KeyCurve.class);
        for (Class<?> inside : KeyCurve.class.getDeclaredClasses()) {
            int kind = inside.getModifiers();
            Report.due(inside + " is static", Modifier.isStatic(kind), true);
            Report.due(inside + " is hidden", Modifier.isPublic(kind) || Modifier.isProtected(kind), false);
            checkStaticsAreFinal(inside);
        }
        Report.end();
    }

    private static void checkMethods() {
        TreeSet<String> due = new TreeSet<>(java.util.List.of(FACE));
        TreeSet<String> seen = new TreeSet<>();
        TreeSet<String> names = new TreeSet<>();
        for (Method method : KeyCurve.class.getDeclaredMethods()) {
            if (!Modifier.isPrivate(method.getModifiers())) {
                seen.add(tell(method));
                names.add(method.getName());
                Report.due(method + " is public", Modifier.isPublic(method.getModifiers()), true);
            }
        }
        Report.due("the face", seen, due);
        for (Method method : KeyCurve.class.getDeclaredMethods()) {
            if (Modifier.isPrivate(method.getModifiers())) {
                Report.due(method + " shares a name", names.contains(method.getName()), false);
            }
        }
    }

    private static String tell(Method method) {
        StringBuilder text = new StringBuilder();
        for (Class<?> type : method.getParameterTypes()) {
            text.append(text.length() == 0 ? "" : ", ").append(type.getName());
        }
        return method.getReturnType().getName() + " " + method.getName() + "(" + text + ")";
    }

    private static void checkConstructors() {
        Constructor<?>[] all = KeyCurve.class.getDeclaredConstructors();
        Report.due("constructors", all.length, 1);
        Report.due("its parameters", all[0].getParameterCount(), 0);
        Report.due("it is public", Modifier.isPublic(all[0].getModifiers()), true);
    }

    private static void checkFields(Class<?> type) {
        for (Field field : type.getDeclaredFields()) {
            Report.due(field + " is private", Modifier.isPrivate(field.getModifiers()), true);
        }
        checkStaticsAreFinal(type);
    }

    private static void checkStaticsAreFinal(Class<?> type) {
        for (Field field : type.getDeclaredFields()) {
            int modifiers = field.getModifiers();
            Report.due(field + " is final", !Modifier.isStatic(modifiers) || Modifier.isFinal(modifiers), true);
        }
    }
}
