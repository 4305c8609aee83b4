import java.lang.reflect.Method;
import java.nio.file.Files;
import java.nio.file.Path;
import java.util.ArrayList;
import java.util.List;
import java.util.TreeSet;
import java.util.regex.Matcher;
import java.util.regex.Pattern;
import java.util.stream.Stream;

/** What README.md says is so: its example, its tables, and the files that it names. Run where README.md is. */
public final class ReadmeTest {
    private static final Path TESTS = Path.of("src/test/java");
    private static final Pattern EXAMPLE = Pattern.compile(" {4}test\\.(\\w+)\\((.*?)\\);\\s+// (-?[\\w.]+): .*");
    private static final Pattern ROW = Pattern.compile("\\| `(\\w+)\\((.*?)\\)` \\|.*");
    private static final Pattern TEST = Pattern.compile("`(\\w+Test|Check|Made|Twins|Pair|Model)`");

    private ReadmeTest() {
    }

    public static void main(String[] args) throws Exception {
        List<String> lines = Files.readAllLines(Path.of("README.md"));
        exampleAnswersAsItSays(lines);
        tablesNameEachCall(lines);
        constantsAreThose(lines);
        testsAreThere(String.join("\n", lines));
        filesAreThere(String.join("\n", lines));
        Check.end("ReadmeTest");
    }

    private static Method method(String name) {
        for (Method method : TestVersions.class.getMethods()) {
            if (method.getName().equals(name) && method.getDeclaringClass() == TestVersions.class) {
                return method;
            }
        }
        return null;
    }

    private static String[] parts(String list) {
        return list.isEmpty() ? new String[0] : list.split(", ");
    }

    private static Object[] numbers(String list) {
        List<Object> numbers = new ArrayList<>();
        for (String part : parts(list)) {
            numbers.add(part.startsWith("'") ? (int) part.charAt(1) : Integer.parseInt(part));
        }
        return numbers.toArray();
    }

    private static double due(String told) {
        switch (told) {
            case "BAD": return TestVersions.BAD;
            case "STATE": return TestVersions.STATE;
            case "FULL": return TestVersions.FULL;
            case "NONE": return TestVersions.NONE;
            default: return Double.parseDouble(told);
        }
    }

    private static void exampleAnswersAsItSays(List<String> lines) throws Exception {
        TestVersions test = new TestVersions();
        int calls = 0;
        int rows = 0;
        for (String line : lines) {
            rows += line.startsWith("    test.") ? 1 : 0;
            Matcher example = EXAMPLE.matcher(line);
            if (example.matches()) {
                calls++;
                Number answer = (Number) method(example.group(1)).invoke(test, numbers(example.group(2)));
                Check.holds("README.md: " + line.strip() + " (it answered " + answer + ")",
                        answer.doubleValue() == due(example.group(3)));
            }
        }
        Check.holds("README.md has an example", calls > 0);
        Check.due("README.md: calls of the example that tell their answer", calls, rows);
    }

    private static void tablesNameEachCall(List<String> lines) {
        TreeSet<String> named = new TreeSet<>();
        for (String line : lines) {
            Matcher row = ROW.matcher(line);
            if (row.matches()) {
                Method method = method(row.group(1));
                Check.holds("README.md: there is a call " + row.group(1), method != null);
                Check.due("README.md: arguments of " + row.group(1), parts(row.group(2)).length,
                        method == null ? -1 : method.getParameterCount());
                Check.holds("README.md names " + row.group(1) + " once", named.add(row.group(1)));
            }
        }
        for (Method method : TestVersions.class.getMethods()) {
            if (method.getDeclaringClass() == TestVersions.class) {
                Check.holds("README.md names the call " + method.getName(), named.contains(method.getName()));
            }
        }
    }

    private static void constantsAreThose(List<String> lines) {
        Pattern constant = Pattern.compile("- `TestVersions\\.(\\w+)` \\((-\\d+)\\): .*");
        int named = 0;
        for (String line : lines) {
            Matcher row = constant.matcher(line);
            if (row.matches()) {
                named++;
                Check.holds("README.md: " + line, due(row.group(1)) == Integer.parseInt(row.group(2)));
            }
        }
        Check.due("README.md: constants", named, 4);
    }

    private static void testsAreThere(String text) throws Exception {
        TreeSet<String> there = new TreeSet<>();
        try (Stream<Path> files = Files.list(TESTS)) {
            files.forEach(file -> there.add(file.getFileName().toString().replace(".java", "")));
        }
        TreeSet<String> named = new TreeSet<>();
        Matcher tests = TEST.matcher(text);
        while (tests.find()) {
            named.add(tests.group(1));
        }
        Check.holds("README.md names the files of src/test/java: " + there + ", not " + named, there.equals(named));
    }

    private static void filesAreThere(String text) {
        Matcher paths = Pattern.compile("(?<![\\w/])(src/[\\w/]+\\.java|\\.ci/run|\\.\\./shared/[\\w.]+)").matcher(text);
        int named = 0;
        while (paths.find()) {
            named++;
            Check.holds("README.md: there is " + paths.group(1), Files.exists(Path.of(paths.group(1))));
        }
        Check.holds("README.md names files", named > 0);
    }
}
