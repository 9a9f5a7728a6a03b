import java.lang.reflect.Method;
import java.util.Arrays;
import java.util.HashMap;
import java.util.Map;

/** The same calls to the program and to the reference, and their answers side by side. */
final class Comparison {
    private static final int MOST_CALLS = 512;
    private static final Map<String, Method> OF_PROGRAM = methodsOf(PipeMoments.class);
    private static final Map<String, Method> OF_REFERENCE = methodsOf(Reference.class);

    private final Check check;
    private final String name;
    private final PipeMoments program = new PipeMoments();
    private final Reference reference = new Reference();
    private final StringBuilder calls = new StringBuilder();
    private int called = 0;

    Comparison(Check check, String name) {
        this.check = check;
        this.name = name;
    }

    private static Map<String, Method> methodsOf(Class<?> type) {
        Map<String, Method> methods = new HashMap<>();
        for (Method method : type.getDeclaredMethods()) {
            methods.put(method.getName(), method);
        }
        return methods;
    }

    static int numbersOf(String method) {
        return OF_PROGRAM.get(method).getParameterCount();
    }

    boolean isOver() {
        return called == MOST_CALLS || !check.isClean();
    }

    int reference(String method, int... numbers) {
        return answer(OF_REFERENCE, reference, method, numbers);
    }

    void call(String method, int... numbers) {
        if (isOver()) {
            return;
        }
        called++;
        String call = method + Arrays.toString(numbers);
        int got = answer(OF_PROGRAM, program, method, numbers);
        int want = answer(OF_REFERENCE, reference, method, numbers);
        calls.append(call).append(' ');
        check.due(got == want ? call : name + ": " + calls, got, want);
    }

    /** Compares all that is laid. */
    void view() {
        for (int what = 0; what < 6; what++) {
            call("count", what);
        }
        for (int pipe = reference("count", 1) - 1; pipe >= 0; pipe--) {
            for (int what = 0; what < 6; what++) {
                call("pipeOf", pipe, what);
            }
        }
        for (int place = reference("count", 0) - 1; place >= 0; place--) {
            for (int what = 0; what < 5; what++) {
                call("placeOf", place, what);
            }
        }
    }

    private static int answer(Map<String, Method> methods, Object object, String method, int[] numbers) {
        try {
            return (int) methods.get(method).invoke(object, Arrays.stream(numbers).boxed().toArray());
        } catch (ReflectiveOperationException e) {
            throw new IllegalStateException(method + Arrays.toString(numbers), e);
        }
    }
}
