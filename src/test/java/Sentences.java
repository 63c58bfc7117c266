import java.lang.reflect.InvocationTargetException;
import java.lang.reflect.Method;
import java.util.ArrayList;
import java.util.Arrays;
import java.util.Comparator;
import java.util.List;

/** Runs the tests of a class, each of which says the sentence that it belongs to. */
final class Sentences {
    static final Class<?>[] TESTS = {TermsTest.class, NamesTest.class, RefusalOrderTest.class,
        DeclarationTest.class, CallTest.class, ArgumentsTest.class, DataTest.class, CancelTest.class,
        ReadmeTest.class};

    private Sentences() {
    }

    /** In the order of their names, as the order in the file is not known. */
    static List<Method> of(Class<?> tests) {
        List<Method> found = new ArrayList<>();
        for (Method m : tests.getDeclaredMethods()) {
            if (m.isAnnotationPresent(Sentence.class)) {
                m.setAccessible(true);
                found.add(m);
            }
        }
        found.sort(Comparator.comparing(Method::getName));
        return found;
    }

    static void run(Class<?> tests) {
        Checks.due(tests + " is one that SentencesTest knows", Arrays.asList(TESTS).contains(tests) ? 1 : 0, 1);
        for (Method m : of(tests)) {
            Sentence s = m.getAnnotation(Sentence.class);
            Checks.about(s.in() + ", \"" + s.says() + "\", " + m.getName() + ": ");
            try {
                m.invoke(null);
            } catch (InvocationTargetException e) {
                Checks.miss("threw " + e.getCause());
            } catch (IllegalAccessException e) {
                Checks.miss("can't be run: " + e);
            }
        }
        Checks.end();
    }
}
