import java.lang.reflect.InvocationTargetException;
import java.lang.reflect.Method;
import java.util.Arrays;
import java.util.Comparator;
import java.util.Set;
import java.util.TreeSet;

/** Counts the answers that are not the ones that are due, and prints them. */
final class Check {
    private static final Set<String> FAILED = new TreeSet<>();
    private static int wrong = 0;
    private static int looked = 0;

    private Check() {
    }

    static void due(String what, double got, double want) {
        looked++;
        if (got != want) {
            wrong++;
            System.out.println(what + " answered " + got + ", due is " + want);
        }
    }

    static void holds(String what, boolean holds) {
        looked++;
        if (!holds) {
            wrong++;
            System.out.println(what + " does not hold");
        }
    }

    static int wrongSoFar() {
        return wrong;
    }

    /** The names of the tests in which an answer was wrong. */
    static Set<String> failed() {
        return FAILED;
    }

    /** Runs every test of a class: each of its methods without arguments and without an answer. */
    static void each(Class<?> tests) {
        Method[] methods = tests.getDeclaredMethods();
        Arrays.sort(methods, Comparator.comparing(Method::getName));
        for (Method method : methods) {
            if (method.getParameterCount() == 0 && method.getReturnType() == void.class) {
                one(tests, method);
            }
        }
    }

    private static void one(Class<?> tests, Method method) {
        int before = wrong;
        int lookedBefore = looked;
        try {
            method.invoke(null);
        } catch (InvocationTargetException thrown) {
            holds("no throw of " + thrown.getCause(), false);
        } catch (IllegalAccessException closed) {
            holds("a test that can be called", false);
        }
        if (looked == lookedBefore) {
            holds("a test that looks at something", false);
        }
        if (wrong > before) {
            FAILED.add(tests.getName() + "." + method.getName());
            System.out.println("  ... in " + tests.getName() + "." + method.getName());
        }
    }

    /** Ends the program, with the exit code 1 if an answer was wrong or none was looked at. */
    static void end(String name) {
        System.out.println(name + ": " + looked + " answers, " + wrong + " wrong");
        System.exit(wrong == 0 && looked > 0 ? 0 : 1);
    }
}
