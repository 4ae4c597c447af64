import java.io.IOException;
import java.lang.reflect.Constructor;
import java.lang.reflect.Method;
import java.lang.reflect.Modifier;
import java.lang.reflect.Parameter;
import java.nio.file.Files;
import java.nio.file.Path;
import java.util.Set;
import java.util.TreeSet;
import java.util.regex.Matcher;
import java.util.regex.Pattern;
import java.util.stream.Collectors;
import java.util.stream.Stream;

/** README.md tells each method and each test, and the answers of its example are so; read from the project's folder. */
public final class ReadmeTest {
    private static final Path TESTS = Path.of("src/test/java");
    private static final Pattern CALL = Pattern.compile("rules\\.(\\w+)\\(([^)]*)\\);(?:\\s*// ([^:]+)(?::.*)?)?");

    private static final Due due = new Due();

    public static void main(String[] args) throws IOException, ReflectiveOperationException {
        String readme = Files.readString(Path.of("README.md"));
        due.sentence("README.md says how to use the class: its example");
        example(readme);
        due.sentence("README.md says how to use the class: each method of the public face");
        due.answer("the rows of calls are the public face", rowsOfCalls(readme).equals(face()), true);
        due.sentence("README.md says how to run its tests");
        due.answer(".ci/run is named", readme.contains("\n    .ci/run\n"), true);
        due.answer(".ci/run can be run", Files.isExecutable(Path.of(".ci/run")), true);
        due.answer("the rows of tests are the tests", rowsOfTests(readme).equals(tests()), true);
        due.end();
    }

    private static void example(String readme) throws ReflectiveOperationException {
        String[] lines = readme.split("```java\n")[1].split("```")[0].split("\n");
        due.answer("the first line makes an object", lines[0].equals("RangeRules rules = new RangeRules();"), true);
        RangeRules rules = new RangeRules();
        Set<String> called = new TreeSet<>();
        for (int i = 1; i < lines.length; i++) {
            Matcher call = CALL.matcher(lines[i]);
            boolean isCall = call.matches();
            due.answer(lines[i] + " is a call", isCall, true);
            if (isCall) {
                called.add(call.group(1));
                Object answer = answer(rules, call.group(1), call.group(2));
                String want = call.group(3) == null ? "null" : call.group(3);
                due.answer(lines[i] + " (now " + answer + ") is so", String.valueOf(answer).equals(want), true);
            }
        }
        for (Method method : publicMethods()) {
            due.answer(method.getName() + " is in the example", called.contains(method.getName()), true);
        }
    }

    private static Object answer(RangeRules rules, String name, String list) throws ReflectiveOperationException {
        Object[] numbers = list.isEmpty() ? new Object[0] : Stream.of(list.split(", ")).map(Integer::valueOf).toArray();
        for (Method method : publicMethods()) {
            if (method.getName().equals(name) && method.getParameterCount() == numbers.length) {
                return method.invoke(rules, numbers);
            }
        }
        return "no such method";
    }

    private static Method[] publicMethods() {
        return Stream.of(RangeRules.class.getDeclaredMethods())
                .filter(method -> Modifier.isPublic(method.getModifiers())).toArray(Method[]::new);
    }

    /** As "int down(int)": the file of a class does not keep the names of what a method takes. */
    private static Set<String> face() {
        Set<String> face = new TreeSet<>();
        for (Constructor<?> constructor : RangeRules.class.getConstructors()) {
            face.add(constructor.getName() + "(" + types(constructor.getParameters()) + ")");
        }
        for (Method method : publicMethods()) {
            face.add(method.getReturnType() + " " + method.getName() + "(" + types(method.getParameters()) + ")");
        }
        return face;
    }

    private static String types(Parameter[] parameters) {
        return Stream.of(parameters).map(parameter -> parameter.getType().toString()).collect(Collectors.joining(", "));
    }

    private static Set<String> rowsOfCalls(String readme) {
        Set<String> rows = new TreeSet<>();
        Matcher row = Pattern.compile("(?m)^\\| `([\\w ]+\\([^)]*\\))` \\|").matcher(readme);
        while (row.find()) {
            rows.add(row.group(1).replaceAll("(int) \\w+(?=[,)])", "$1"));
        }
        return rows;
    }

    private static Set<String> rowsOfTests(String readme) {
        Set<String> rows = new TreeSet<>();
        Matcher row = Pattern.compile("(?m)^\\| (\\w+Test) \\|").matcher(readme);
        while (row.find()) {
            rows.add(row.group(1));
        }
        return rows;
    }

    private static Set<String> tests() throws IOException {
        try (Stream<Path> files = Files.list(TESTS)) {
            return files.map(file -> file.getFileName().toString()).filter(name -> name.endsWith("Test.java"))
                    .map(name -> name.replace(".java", "")).collect(Collectors.toCollection(TreeSet::new));
        }
    }
}
