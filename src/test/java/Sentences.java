import java.lang.reflect.InvocationTargetException;
import java.lang.reflect.Method;
import java.util.ArrayList;
import java.util.Comparator;
import java.util.List;

/** Runs the tests of single sentences: each static method of a class that bears a Says. */
final class Sentences {
    private Sentences() {
    }

    static List<Method> of(Class<?> tests) {
        List<Method> all = new ArrayList<>();
        for (Method test : tests.getDeclaredMethods()) {
            if (test.isAnnotationPresent(Says.class)) {
                all.add(test);
            }
        }
        all.sort(Comparator.comparing(Method::getName));
        return all;
    }

    static void run(Class<?> tests) {
        List<Method> all = of(tests);
        for (Method test : all) {
            Check.about(told(test.getAnnotation(Says.class)));
            runOne(test);
        }
        Check.about("");
        forgetNone(tests);
        Check.end(tests.getName() + ", " + all.size() + " sentences");
    }

    static String told(Says says) {
        String place = says.promise() > 0 ? "Promise " + says.promise()
            : says.section() > 0 ? "Section " + says.section() : "Document";
        return place + ", \"" + says.text() + "\": ";
    }

    private static void runOne(Method test) {
        try {
            test.setAccessible(true);
            test.invoke(null);
        } catch (InvocationTargetException e) {
            Check.tell(test.getName() + " ended with " + e.getCause());
        } catch (IllegalAccessException e) {
            Check.tell(test.getName() + " could not be run");
        }
    }

    /** A test without a sentence would not be run. */
    private static void forgetNone(Class<?> tests) {
        for (Method one : tests.getDeclaredMethods()) {
            boolean isTest = one.getParameterCount() == 0 && one.getReturnType() == void.class;
            if (isTest && !one.isSynthetic() && !one.isAnnotationPresent(Says.class)) {
                Check.tell(one.getName() + " says no sentence");
            }
        }
    }
}
