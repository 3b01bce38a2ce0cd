import java.lang.reflect.InvocationTargetException;
import java.lang.reflect.Method;
import java.util.ArrayList;
import java.util.Arrays;
import java.util.Comparator;
import java.util.List;

/** Runs the tests of a class that have a Sentence, each by itself, and tells the sentence of one that fails. */
final class Sentences {
    private Sentences() {
    }

    static List<Method> of(Class<?> tests) {
        List<Method> found = new ArrayList<>();
        for (Method method : tests.getDeclaredMethods()) {
            if (method.isAnnotationPresent(Sentence.class)) {
                found.add(method);
            }
        }
        found.sort(Comparator.comparing(Method::getName));
        return found;
    }

    static void run(Class<?> tests) {
        Check.endInTime(tests.getName());
        for (Method method : of(tests)) {
            int madeBefore = Check.made();
            int wrongBefore = Check.wrong();
            try {
                method.invoke(null);
            } catch (InvocationTargetException e) {
                Check.due(method.getName() + " threw " + e.getCause() + at(e.getCause()), 1, 0);
            } catch (IllegalAccessException e) {
                Check.due(method.getName() + " cannot be called", 1, 0);
            }
            Check.due(method.getName() + " checks something", Check.made() > madeBefore ? 1 : 0, 1);
            if (Check.wrong() > wrongBefore) {
                Sentence sentence = method.getAnnotation(Sentence.class);
                System.out.println("  so " + method.getName() + " fails: " + sentence.in() + ": " + sentence.says());
            }
        }
        Check.end(tests.getName());
    }

    private static String at(Throwable thrown) {
        return Arrays.stream(thrown.getStackTrace()).filter(e -> e.getClassName().endsWith("Test")).findFirst()
                .map(e -> " at line " + e.getLineNumber()).orElse("");
    }
}
