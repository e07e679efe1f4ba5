import java.io.IOException;
import java.lang.reflect.Method;
import java.lang.reflect.Modifier;
import java.nio.file.Files;
import java.nio.file.Path;
import java.util.ArrayList;
import java.util.List;
import java.util.stream.Stream;

/** README.md tells every call and every test, and its example runs as it says; started at the project's top. */
public final class ReadmeTest {
    private static final Path README = Path.of("README.md");
    private static final Path TESTS = Path.of("src/test/java");

    public static void main(String[] args) throws IOException {
        runExample();
        exampleIsThatOfTheReadme();
        everyCallIsTold();
        everyTestIsTold();
        Report.end();
    }

    private static void runExample() {
        // The example starts here.
        KeyCurve curve = new KeyCurve();
        curve.set(0, 0, 3);                      // REGISTER 0 = 3, as its other WORDS are 0
        curve.base(0);                           // POINT 0 = BASE
        curve.times(1, 0, 0);                    // POINT 1 = 3 times POINT 0
        boolean found = curve.take(1, 1, false); // true: REGISTER 1 = the x of POINT 1
        int lowest = curve.get(1, 0);            // 0xBCE036F9, the lowest 32 bits of that x

        curve.plus(2, 0, 0);                     // POINT 2 = POINT 0 + POINT 0
        curve.plus(2, 2, 0);                     // the target may be one of the sources
        boolean same = curve.same(1, 2);         // true: both are 3 times BASE
        boolean lifted = curve.lift(3, 1, true); // true: POINT 3 has that x too, and an odd y
        curve.plus(3, 3, 1);                     // POINT 3 = NONE: the two were opposite
        boolean none = curve.take(1, 3, false);  // false: NONE has no x, and REGISTER 1 stays

        curve.invert(2, 0, true);                // REGISTER 2 = 1 / 3 modulo ORDER
        curve.multiply(2, 2, 0, true);           // REGISTER 2 = 1
        int one = curve.get(2, 0);               // 1
        // The example ends here.
        Report.due("found", found, true);
        Report.due("lowest", lowest, 0xBCE036F9);
        Report.due("same", same, true);
        Report.due("lifted", lifted, true);
        Report.due("none", none, false);
        Report.due("REGISTER 1 stays", curve.get(1, 0), 0xBCE036F9);
        Report.due("one", one, 1);
    }

    private static void exampleIsThatOfTheReadme() throws IOException {
        List<String> run = between(TESTS.resolve("ReadmeTest.java"),
                "// The example starts here.", "// The example ends here.");
        List<String> told = between(README, "```java", "```");
        Report.due("the example has lines", run.isEmpty(), false);
        Report.due("the example of README.md", told, run);
    }

    private static void everyCallIsTold() throws IOException {
        String readme = Files.readString(README);
        for (Method method : KeyCurve.class.getDeclaredMethods()) {
            if (Modifier.isPublic(method.getModifiers())) {
                String start = "| `" + method.getName() + "(";
                Report.due("README.md has a row for " + method.getName(), readme.contains(start), true);
            }
        }
    }

    private static void everyTestIsTold() throws IOException {
        String readme = Files.readString(README);
        try (Stream<Path> files = Files.list(TESTS)) {
            for (Path file : files.toList()) {
                String name = file.getFileName().toString().replace(".java", "");
                if (name.endsWith("Test")) {
                    Report.due("README.md has a row for " + name, readme.contains("| `" + name + "` |"), true);
                }
            }
        }
    }

    /** The lines between the first line that is the start and the next that is the end, without indents. */
    private static List<String> between(Path file, String start, String end) throws IOException {
        List<String> lines = Files.readAllLines(file).stream().map(String::strip).toList();
        int from = lines.indexOf(start) + 1;
        List<String> kept = new ArrayList<>();
        for (int i = from; i < lines.size() && !lines.get(i).equals(end); i++) {
            kept.add(lines.get(i));
        }
        return kept;
    }
}
