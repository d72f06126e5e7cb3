import java.lang.reflect.InvocationTargetException;
import java.lang.reflect.Method;
import java.lang.reflect.Modifier;
import java.util.Map;
import java.util.TreeMap;

/** Runs the tests of a boundary class: its static methods that are named by a promise (or by the terms) and a sentence. */
final class Boundaries {
    static final int LEAST = Integer.MIN_VALUE, GREATEST = Integer.MAX_VALUE;

    private Boundaries() {
    }

    static void run(Class<?> tests) {
        Map<String, Method> byName = new TreeMap<>();
        for (Method m : tests.getDeclaredMethods()) {
            if (isTest(m)) {
                byName.put(m.getName(), m);
            }
        }
        Check.name(tests.getName());
        Check.due("tests, one at least", byName.isEmpty() ? 0 : 1, 1);
        for (Method m : byName.values()) {
            runOne(m);
        }
        Check.end();
    }

    private static boolean isTest(Method m) {
        boolean isNamed = m.getName().startsWith("promise") || m.getName().startsWith("terms");
        return isNamed && Modifier.isStatic(m.getModifiers()) && m.getParameterCount() == 0;
    }

    private static void runOne(Method m) {
        Check.name(m.getName());
        try {
            m.invoke(null);
        } catch (InvocationTargetException e) {
            e.getCause().printStackTrace(System.out);
            Check.due("exceptions", 1, 0);
        } catch (IllegalAccessException e) {
            Check.due("a test that can be called", 0, 1);
        }
    }
}
