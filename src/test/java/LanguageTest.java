import java.io.IOException;
import java.lang.reflect.Method;
import java.lang.reflect.Modifier;
import java.nio.file.Files;
import java.nio.file.Path;
import java.util.Arrays;
import java.util.List;
import java.util.TreeSet;
import java.util.regex.Matcher;
import java.util.regex.Pattern;

/** The face of the class, and those rules of ../shared/LANGUAGE.md that its text shows. */
public final class LanguageTest {
    private static final List<String> FACE = List.of(
        "place/2", "pipe/4", "dropPipe/1", "open/3", "widen/2", "units/2", "room/2", "pipeOf/2", "placeOf/2",
        "come/1", "earliest/1", "repeated/2", "narrow/1", "wanting/3", "dearest/2", "helpful/2", "withOneMore/2",
        "count/1", "undo/0", "type/1", "clearText/0", "fault/1", "play/0");
    private static final List<String> CONSTANTS = List.of(
        "INVALID_ARGUMENT", "LIMIT_REACHED", "NOT_FOUND", "NOT_POSSIBLE");
    private static final List<String> FORBIDDEN = List.of(
        "\\bthrow\\b", "\\bthrows\\b", "\\btry\\b", "\\bcatch\\b", "\\bsynchronized\\b", "\\bassert\\b", "->", "::",
        "\\bequals\\b", "\\bhashCode\\b", "\\btoString\\b", "Exact\\b", "\\bpackage\\b", "\\bwhile\\b", "\\bprotected\\b",
        "[^\\x00-\\x7f]");
    private static final int MOST_LINES = 60;

    private static final Check check = new Check();

    public static void main(String[] args) throws IOException {
        face();
        String source = Files.readString(Path.of("src/main/java/PipeMoments.java"));
        String code = source.replaceAll("(?s)/\\*.*?\\*/", "").replaceAll("//[^\n]*", "");
        for (String word : FORBIDDEN) {
            check.holds("no " + word, !Pattern.compile(word).matcher(code).find());
        }
        check.holds("no library but Arrays", code.replaceAll("import java\\.util\\.Arrays;", "").indexOf("import") < 0);
        privateNames();
        newOnlyWhereAnObjectIsMade(code);
        shortMethods(source);
        check.end();
    }

    private static void face() {
        TreeSet<String> methods = new TreeSet<>();
        for (Method method : PipeMoments.class.getDeclaredMethods()) {
            if (!Modifier.isPrivate(method.getModifiers())) {
                methods.add(method.getName() + "/" + method.getParameterCount());
                check.holds(method.getName() + " is public", Modifier.isPublic(method.getModifiers()));
                check.holds(method.getName() + " is of int", method.getReturnType() == int.class
                    && Arrays.stream(method.getParameterTypes()).allMatch(type -> type == int.class));
            }
        }
        check.holds("the methods " + methods, methods.equals(new TreeSet<>(FACE)));
        TreeSet<String> fields = new TreeSet<>();
        Arrays.stream(PipeMoments.class.getDeclaredFields())
            .filter(field -> !Modifier.isPrivate(field.getModifiers())).forEach(field -> fields.add(field.getName()));
        check.holds("the constants " + fields, fields.equals(new TreeSet<>(CONSTANTS)));
        check.due("constructors", PipeMoments.class.getConstructors().length, 1);
        check.holds("the class is final", Modifier.isFinal(PipeMoments.class.getModifiers()));
    }

    private static void privateNames() {
        for (Class<?> type : PipeMoments.class.getDeclaredClasses()) {
            check.holds(type + " is static", Modifier.isStatic(type.getModifiers()));
            for (Method method : type.getDeclaredMethods()) {
                check.holds(type + " has no " + method.getName(),
                    FACE.stream().noneMatch(name -> name.startsWith(method.getName() + "/")));
            }
        }
    }

    /** Calls make no object: there is room for the rows of the constructors alone. */
    private static void newOnlyWhereAnObjectIsMade(String code) {
        Matcher matcher = Pattern.compile("\n([^\n]*\\bnew\\b[^\n]*)").matcher(code);
        while (matcher.find()) {
            String line = matcher.group(1).trim();
            boolean isField = line.startsWith("private final ");
            check.holds("made with the object: " + line, isField || line.equals("states[state] = new Layout();"));
        }
    }

    private static void shortMethods(String source) {
        // a method ends with the first line that closes as far in as it began
        Matcher matcher = Pattern.compile("(?m)^( {4}| {8})(\\w[^\n]*)\\) \\{\n((?!\\1\\}$).*\n)*\\1\\}$").matcher(source);
        int methods = 0;
        while (matcher.find()) {
            methods++;
            check.holds("short: " + matcher.group(2), matcher.group().split("\n").length <= MOST_LINES);
        }
        check.holds("methods found: " + methods, methods > FACE.size());
    }

    private LanguageTest() {
    }
}
