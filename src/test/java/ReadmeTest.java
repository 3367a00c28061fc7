import java.io.IOException;
import java.lang.reflect.Method;
import java.lang.reflect.Modifier;
import java.nio.file.Files;
import java.nio.file.Path;
import java.util.ArrayList;
import java.util.List;
import java.util.Map;
import java.util.Set;
import java.util.TreeMap;
import java.util.TreeSet;
import java.util.regex.Matcher;
import java.util.regex.Pattern;
import java.util.stream.Stream;

/** README.md: its example answers what stands beside the calls; it tells every call and every test. */
public final class ReadmeTest {
    private static final Path README = Path.of("README.md");
    private static final Path TESTS = Path.of("src/test/java");

    private static final String FIRST_LINE = "SevenKeys x = new SevenKeys();";
    private static final Pattern CALL = Pattern.compile(
        "x\\.(\\w+)\\((-?\\d+(?:, -?\\d+)*)\\);\\s+// (-?\\d+|[A-Z]+)(?:: .+)?");

    // By the document's numbers, so that a wrong constant of the class is seen, too.
    private static final Map<String, Integer> CONSTANTS =
        Map.of("UNKNOWN", -1, "OUTSIDE", -2, "STATE", -3, "NONE", -6);

    private static final Check CHECK = new Check("ReadmeTest");

    private final SevenKeys x = new SevenKeys();
    private final Set<String> called = new TreeSet<>();
    private final Set<String> answered = new TreeSet<>();

    public static void main(String[] args) throws IOException, ReflectiveOperationException {
        List<String> lines = Files.readAllLines(README);
        new ReadmeTest().run(example(lines));
        tellsEveryCall(String.join("\n", lines));
        namesEveryTest(String.join("\n", lines));
        CHECK.end();
    }

    /** The lines of code between ```java and ```; README.md has one such part. */
    private static List<String> example(List<String> lines) {
        int start = lines.indexOf("```java");
        CHECK.holds("README.md has an example", start >= 0);
        CHECK.due("there is no other one", lines.lastIndexOf("```java"), start);
        List<String> code = new ArrayList<>();
        for (int i = start + 1; i < lines.size() && !lines.get(i).equals("```"); i++) {
            String line = lines.get(i).strip();
            if (!line.isEmpty() && !line.startsWith("//")) {
                code.add(line);
            }
        }
        return code;
    }

    private void run(List<String> code) throws ReflectiveOperationException {
        CHECK.holds("the example begins with a new object", !code.isEmpty() && code.get(0).equals(FIRST_LINE));
        CHECK.holds("the example has at most 512 calls", code.size() - 1 <= Fresh.CALLS);
        for (String line : code.subList(Math.min(1, code.size()), code.size())) {
            Matcher call = CALL.matcher(line);
            CHECK.holds("is a call and its answer: " + line, call.matches());
            if (call.matches()) {
                make(line, call.group(1), call.group(2).split(", "), call.group(3));
            }
        }
        CHECK.same("the example makes each call", called.toString(), face().keySet().toString());
        CHECK.holds("the example has each constant: " + answered, answered.containsAll(CONSTANTS.keySet()));
    }

    private void make(String line, String name, String[] numbers, String answer) throws ReflectiveOperationException {
        called.add(name);
        answered.add(answer);
        CHECK.holds("there is such a constant: " + line, CONSTANTS.containsKey(answer) || isNumber(answer));
        int due = isNumber(answer) ? Integer.parseInt(answer) : CONSTANTS.getOrDefault(answer, 0);
        CHECK.due(line, answerOf(name, numbers), due);
    }

    private static boolean isNumber(String text) {
        return text.matches("-?\\d+");
    }

    private int answerOf(String name, String[] numbers) throws ReflectiveOperationException {
        Class<?>[] types = new Class<?>[numbers.length];
        Object[] values = new Object[numbers.length];
        for (int i = 0; i < numbers.length; i++) {
            types[i] = int.class;
            values[i] = Integer.valueOf(numbers[i]);
        }
        return (int) SevenKeys.class.getMethod(name, types).invoke(x, values);
    }

    /** The calls of the class, with how many numbers each takes. */
    private static Map<String, Integer> face() {
        Map<String, Integer> calls = new TreeMap<>();
        for (Method method : SevenKeys.class.getDeclaredMethods()) {
            if (Modifier.isPublic(method.getModifiers())) {
                calls.put(method.getName(), method.getParameterCount());
            }
        }
        return calls;
    }

    private static void tellsEveryCall(String text) {
        Map<String, Integer> told = new TreeMap<>();
        Matcher rows = Pattern.compile("(?m)^\\| `(\\w+)\\(([^)]*)\\)` \\|").matcher(text);
        while (rows.find()) {
            told.put(rows.group(1), rows.group(2).split(", ").length);
        }
        CHECK.same("the calls that README.md tells", told.toString(), face().toString());
    }

    private static void namesEveryTest(String text) throws IOException {
        CHECK.holds("README.md says how to run the tests", text.contains("    .ci/run\n"));
        Set<String> tests = new TreeSet<>();
        try (Stream<Path> files = Files.list(TESTS)) {
            files.map(file -> file.getFileName().toString()).filter(name -> name.endsWith("Test.java"))
                .forEach(name -> tests.add(name.replace(".java", "")));
        }
        Set<String> named = new TreeSet<>();
        Matcher rows = Pattern.compile("(?m)^\\| (\\w+Test) \\|").matcher(text);
        while (rows.find()) {
            named.add(rows.group(1));
        }
        CHECK.same("the tests that README.md names", named.toString(), tests.toString());
    }
}
