import java.lang.reflect.InvocationTargetException;
import java.lang.reflect.Method;
import java.util.Arrays;
import java.util.Comparator;
import java.util.List;

/** Runs the tests of a class that hold a sentence of the document each. */
final class Sentences {
    private Sentences() { }

    static void run(Class<?> tests, Due due) throws IllegalAccessException {
        for (Method test : of(tests)) {
            Holds holds = test.getAnnotation(Holds.class);
            due.about("promise " + holds.promise() + ", " + test.getName() + ", " + Arrays.toString(holds.sentence()));
            int before = due.checks();
            try {
                test.invoke(null);
            } catch (InvocationTargetException e) {
                due.holds("threw " + e.getCause(), false);
            }
            due.holds("compared nothing", due.checks() > before);
        }
        due.end();
    }

    static List<Method> of(Class<?> tests) {
        return Arrays.stream(tests.getDeclaredMethods())
                .filter(method -> method.isAnnotationPresent(Holds.class))
                .sorted(Comparator.comparing(Method::getName))
                .toList();
    }
}
