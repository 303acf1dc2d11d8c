import java.lang.reflect.InvocationTargetException;
import java.lang.reflect.Method;
import java.util.ArrayList;
import java.util.Comparator;
import java.util.List;

/** Runs the tests of a class, each for a sentence of the document, and names the sentence that is broken. */
final class Sentences {
    private Sentences() {
    }

    static List<Method> testsOf(Class<?> tests) {
        List<Method> found = new ArrayList<>();
        for (Method m : tests.getDeclaredMethods()) {
            if (m.isAnnotationPresent(Says.class)) {
                found.add(m);
            }
        }
        // The machine tells methods in no order that it promises.
        found.sort(Comparator.comparing(Method::getName));
        return found;
    }

    static void run(Class<?> tests) {
        Check check = new Check();
        for (Method test : testsOf(tests)) {
            check.begin(test.getName() + ", \"" + test.getAnnotation(Says.class).value() + "\"");
            try {
                test.invoke(null, check);
            } catch (InvocationTargetException e) {
                // One test that breaks off must not hide what the others find.
                check.broken(e.getCause());
            } catch (IllegalAccessException e) {
                check.broken(e);
            }
        }
        check.finish();
    }
}
