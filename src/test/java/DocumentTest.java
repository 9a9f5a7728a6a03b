import java.io.IOException;
import java.lang.reflect.Method;
import java.nio.file.Files;
import java.nio.file.Path;
import java.util.ArrayList;
import java.util.Arrays;
import java.util.HashMap;
import java.util.List;
import java.util.Map;
import java.util.regex.Matcher;
import java.util.regex.Pattern;

/**
 * The document's own words, read from it: the public face in its order, what the interface says ahead
 * of the calls, and each promise with the ranges of its arguments.
 */
public final class DocumentTest {
    private static final int INVALID = Nets.INVALID;
    private static final int PROMISES = 24;
    private static final Pattern PROMISE = Pattern.compile(
        "## Promise (\\d+): ([^\n]+)\n\n`int (\\w+)\\(([^)]*)\\)`: (.*?)(?=\n## |\\z)", Pattern.DOTALL);

    private static final Check check = new Check();
    private static final String DOCUMENT = Check.document();

    public static void main(String[] args) throws IOException {
        String source = Files.readString(Path.of("src/main/java/PipeMoments.java"));
        face(source);
        constants();
        sections(source);
        promises(Files.readString(Path.of("src/test/java/PromiseTest.java")));
        ranges();
        check.end();
    }

    private static List<String> found(String pattern, String text) {
        List<String> all = new ArrayList<>();
        Matcher matcher = Pattern.compile(pattern).matcher(text);
        while (matcher.find()) {
            all.add(matcher.group(1));
        }
        return all;
    }

    private static void face(String source) {
        check.under("The public face");
        int begin = DOCUMENT.indexOf("```java\n");
        String face = DOCUMENT.substring(begin, DOCUMENT.indexOf("}\n```", begin));
        check.holds("the class", source.contains("\n" + found("(?m)^(public final class .*)$", face).get(0) + "\n"));
        List<String> members = found("(?m)^    (public [^;]*);$", face);
        List<String> inSource = found("(?m)^    (public [^;{]*?)(?:;| \\{)$", source);
        check.due("how many", inSource.size(), 4 + 1 + 23);
        check.due("all in the document's order", inSource.toString(), members.toString());
    }

    private static void constants() {
        check.under("The constants");
        Map<String, Integer> ofClass = Map.of("INVALID_ARGUMENT", PipeMoments.INVALID_ARGUMENT,
            "NOT_POSSIBLE", PipeMoments.NOT_POSSIBLE, "LIMIT_REACHED", PipeMoments.LIMIT_REACHED,
            "NOT_FOUND", PipeMoments.NOT_FOUND);
        Matcher constant = Pattern.compile("`([A-Z_]+) = (-\\d+)`: ").matcher(DOCUMENT);
        int told = 0;
        while (constant.find()) {
            told++;
            check.due(constant.group(1), String.valueOf(ofClass.get(constant.group(1))), constant.group(2));
        }
        check.due("how many", told, ofClass.size());
    }

    private static void sections(String source) {
        check.under("Ahead of the calls .. the interface says");
        String[] parts = source.split("(?m)^    // ----");
        check.holds("none stands ahead of the first section", found("    public int (\\w+)\\(", parts[0]).isEmpty());
        Matcher section = Pattern.compile("(?m)^Ahead of the calls (.*) the interface says: ----( .*)\\.$").matcher(DOCUMENT);
        int told = 0;
        while (section.find()) {
            told++;
            String part = told < parts.length ? parts[told] : "";
            check.due("the section " + told, part.split("\n")[0], section.group(2));
            check.due("its calls", found("    public int (\\w+)\\(", part).toString(),
                found("`(\\w+)`", section.group(1)).toString());
        }
        check.due("how many", parts.length - 1, told);
        check.due("how many in the document", told, 4);
    }

    private static void promises(String promiseTest) {
        check.under("each promise has a test by hand");
        List<String> numbers = found("(?m)^## Promise (\\d+): ", DOCUMENT);
        check.due("how many", numbers.size(), PROMISES);
        for (String number : numbers) {
            check.holds("promise " + number, promiseTest.contains("    // promise " + number + "\n"));
        }
    }

    // ---- ranges

    /** An argument as its promise tells it: its name, and its least and greatest number on the long line. */
    private static final class Argument {
        final String name;
        final int least;
        final int greatest;

        Argument(String name, int least, int greatest) {
            this.name = name;
            this.least = least;
            this.greatest = greatest;
        }

        static Argument of(String name, String told) {
            Matcher range = Pattern.compile("(\\d+) to (\\d+|tick)").matcher(told);
            if (range.find()) {
                int least = told.contains("or -1") ? -1 : Integer.parseInt(range.group(1));
                return new Argument(name, least, range.group(2).equals("tick") ? 5 : Integer.parseInt(range.group(2)));
            }
            if (told.contains("number of a place other than the exit")) {
                return new Argument(name, 1, 2);
            }
            if (told.contains(" place") && told.startsWith("number of")) {
                return new Argument(name, 0, 2);
            }
            if (told.equals("number of the pipe")) {
                return new Argument(name, 0, 1);
            }
            List<String> listed = found("(\\d+): ", told);
            return new Argument(name, 0, Integer.parseInt(listed.get(listed.size() - 1)));
        }

        int ordinary() {
            switch (name) {
                case "tick": return 5;
                case "from": return 2;
                default: return Math.max(least, 0);
            }
        }
    }

    private static void ranges() {
        Map<String, Method> methods = new HashMap<>();
        for (Method method : PipeMoments.class.getDeclaredMethods()) {
            methods.put(method.getName(), method);
        }
        Matcher promise = PROMISE.matcher(DOCUMENT);
        int told = 1;
        while (promise.find()) {
            told++;
            check.due("the number of promise " + told, promise.group(1), Integer.toString(told));
            check.due("its call", promise.group(2), promise.group(3));
            rangesOf(methods.get(promise.group(3)), promise.group(4), promise.group(5));
        }
        check.due("how many", told, PROMISES);
    }

    private static void rangesOf(Method method, String parameters, String text) {
        List<Argument> arguments = new ArrayList<>();
        Matcher bullet = Pattern.compile("(?m)^- `(\\w+)`: (.*)$").matcher(text);
        while (bullet.find()) {
            arguments.add(Argument.of(bullet.group(1), bullet.group(2)));
        }
        check.due(method.getName() + ": arguments", arguments.size(), method.getParameterCount());
        check.due(method.getName() + ": their names", found("int (\\w+)", parameters).toString(),
            Arrays.toString(arguments.stream().map(argument -> argument.name).toArray()));
        for (int number = 0; number < arguments.size(); number++) {
            Argument argument = arguments.get(number);
            boolean[] withinAtEdges = {false, true, true, false};
            int[] edges = {argument.least - 1, argument.least, argument.greatest, argument.greatest + 1};
            for (int edge = 0; edge < edges.length; edge++) {
                Object[] numbers = arguments.stream().map(Argument::ordinary).toArray();
                numbers[number] = edges[edge];
                differ(method, number, numbers);
                check.due(method.getName() + Arrays.toString(numbers) + " is within the ranges",
                    answer(method, numbers) == INVALID ? 0 : 1, withinAtEdges[edge] ? 1 : 0);
            }
        }
    }

    /** Both places of a pipe are different ones, whichever of them is asked. */
    private static void differ(Method method, int asked, Object[] numbers) {
        if (method.getName().equals("pipe") && numbers[0].equals(numbers[1])) {
            numbers[asked == 0 ? 1 : 0] = 1;
        }
    }

    private static int answer(Method method, Object[] numbers) {
        try {
            return (int) method.invoke(Nets.longLine(), numbers);
        } catch (ReflectiveOperationException e) {
            throw new IllegalStateException(method + Arrays.toString(numbers), e);
        }
    }

    private DocumentTest() {
    }
}
