import java.lang.reflect.InvocationTargetException;
import java.lang.reflect.Method;
import java.lang.reflect.Modifier;
import java.util.ArrayList;
import java.util.Comparator;
import java.util.List;

/** Runs the tests of a class: its static methods whose names begin with "promise" and the promise's two digits. */
final class Edges {
    private Edges() {
    }

    private static List<Method> testsOf(Class<?> c) {
        List<Method> all = new ArrayList<>();
        for (Method m : c.getDeclaredMethods()) {
            if (Modifier.isStatic(m.getModifiers()) && m.getName().matches("promise[0-9]{2}[A-Z].*")) {
                all.add(m);
            }
        }
        all.sort(Comparator.comparing(Method::getName));
        return all;
    }

    private static boolean passes(Method test) throws IllegalAccessException {
        Check check = new Check(test.getName());
        try {
            test.invoke(null, check);
        } catch (InvocationTargetException e) {
            System.out.println(test.getName() + ": ended by " + e.getCause());
            return false;
        }
        return check.isGood();
    }

    /** Ends the program with exit code 1 if a test fails, or if one of the promises has none. */
    static void run(Class<?> c, int firstPromise, int lastPromise) throws IllegalAccessException {
        List<Method> tests = testsOf(c);
        int failed = 0;
        for (Method test : tests) {
            if (!passes(test)) {
                System.out.println("FAILED: " + test.getName());
                failed++;
            }
        }
        for (int promise = firstPromise; promise <= lastPromise; promise++) {
            String begin = String.format("promise%02d", promise);
            if (tests.stream().noneMatch(test -> test.getName().startsWith(begin))) {
                System.out.println("FAILED: no test for promise " + promise);
                failed++;
            }
        }
        System.out.println(c.getName() + ": " + tests.size() + " tests, " + failed + " failed");
        if (failed > 0) {
            System.exit(1);
        }
    }
}
