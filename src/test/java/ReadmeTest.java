import java.io.IOException;
import java.lang.reflect.Method;
import java.nio.file.Files;
import java.nio.file.Path;
import java.util.Arrays;
import java.util.HashMap;
import java.util.List;
import java.util.Map;
import java.util.TreeSet;
import java.util.regex.Matcher;
import java.util.regex.Pattern;
import java.util.stream.Collectors;
import java.util.stream.Stream;

/** What README.md tells: its examples answer as it says, and no call, error or test is left out. */
public final class ReadmeTest {
    private static final Map<String, Integer> ERRORS = Map.of(
        "INVALID_ARGUMENT", Nets.INVALID, "NOT_POSSIBLE", Nets.NOT_POSSIBLE, "LIMIT_REACHED", Nets.LIMIT,
        "NOT_FOUND", Nets.NOT_FOUND);
    private static final Pattern BLOCK = Pattern.compile("```java\n(.*?)```", Pattern.DOTALL);
    private static final Pattern CALL = Pattern.compile("x\\.(\\w+)\\(([^)]*)\\);\\s*// (-?\\d+|[A-Z]+_[A-Z]+)(?=[:\n])");

    private static final Pattern NUMBER = Pattern.compile("'.'|-?\\d+");

    private static final Check check = new Check();

    public static void main(String[] args) throws IOException {
        String readme = Files.readString(Path.of("README.md"));
        Map<String, Method> methods = new HashMap<>();
        for (Method method : PipeMoments.class.getDeclaredMethods()) {
            methods.put(method.getName(), method);
        }
        examples(readme, methods);
        calls(readme);
        errors(readme);
        tests(readme);
        check.end();
    }

    /** Each block begins with a new object; a call's answer stands behind it. */
    private static void examples(String readme, Map<String, Method> methods) {
        int blocks = 0;
        Matcher block = BLOCK.matcher(readme);
        while (block.find()) {
            blocks++;
            example("example " + blocks, block.group(1), methods);
        }
        check.holds("examples: " + blocks, blocks >= 3);
    }

    private static void example(String name, String block, Map<String, Method> methods) {
        check.under(name);
        PipeMoments x = new PipeMoments();
        int told = 0;
        Matcher call = CALL.matcher(block);
        while (call.find()) {
            told++;
            Object[] numbers = NUMBER.matcher(call.group(2)).results().map(number -> number(number.group())).toArray();
            Integer error = ERRORS.get(call.group(3));
            int want = error == null ? Integer.parseInt(call.group(3)) : error;
            check.due(call.group(), answer(x, methods.get(call.group(1)), numbers), want);
        }
        // none stands there without its answer, but for the one that is printed
        check.due("calls with their answers", told, block.split("(?m)^ *x\\.", -1).length - 1);
    }

    private static Integer number(String text) {
        return text.startsWith("'") ? Integer.valueOf(text.charAt(1)) : Integer.valueOf(text);
    }

    private static int answer(PipeMoments x, Method method, Object[] numbers) {
        try {
            return (int) method.invoke(x, numbers);
        } catch (ReflectiveOperationException e) {
            throw new IllegalStateException(method + Arrays.toString(numbers), e);
        }
    }

    /** The document's face once more, each with the names of its arguments. */
    private static void calls(String readme) {
        check.under("a line of a table for each call");
        Matcher call = Pattern.compile("(?m)^    public int (\\w+)\\(([^)]*)\\);").matcher(Check.document());
        while (call.find()) {
            String line = "| `" + call.group(1) + "(" + call.group(2).replace("int ", "") + ")` |";
            check.holds(line, readme.contains("\n" + line));
        }
    }

    private static void errors(String readme) {
        check.under("a line of a table for each error");
        ERRORS.forEach((name, number) -> {
            String line = "\n| `PipeMoments." + name + "` | " + number + " |";
            check.holds(line, readme.contains(line));
        });
    }

    private static void tests(String readme) throws IOException {
        check.under("each test is named");
        try (Stream<Path> files = Files.list(Path.of("src/test/java"))) {
            List<String> names = files.map(file -> file.getFileName().toString().replace(".java", ""))
                .filter(name -> name.endsWith("Test")).collect(Collectors.toList());
            for (String name : new TreeSet<>(names)) {
                check.holds(name, readme.contains("`" + name + "`"));
            }
        }
    }

    private ReadmeTest() {
    }
}
