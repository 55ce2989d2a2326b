import java.lang.reflect.InvocationTargetException;
import java.lang.reflect.Method;
import java.util.Arrays;
import java.util.Comparator;

/** Runs tests, and counts and prints the calls whose answer is not the one that is due. */
final class Check {
    static final String ARGUMENT = "throws.IllegalArgumentException";
    static final String INDEX = "throws.IndexOutOfBoundsException";
    static final String STATE = "throws.IllegalStateException";

    interface Call {
        long answer();
    }

    private static String test = "";
    private static int checked = 0;
    private static int wrong = 0;

    private Check() {
    }

    /** Every test of a class is run: the methods that bear the name of a promise. */
    static void runTests(Class<?> tests, String... promises) {
        Method[] methods = tests.getDeclaredMethods();
        Arrays.sort(methods, Comparator.comparing(Method::getName));
        for (String promise : promises) {
            int checkedBefore = checked;
            for (Method method : methods) {
                if (method.getName().startsWith(promise + "_")) {
                    runTest(method);
                }
            }
            test = "";
            told("tests of " + promise, "true", String.valueOf(checked > checkedBefore));
        }
        for (Method method : methods) {
            boolean named = method.getName().startsWith("promise");
            boolean run = Arrays.stream(promises).anyMatch(p -> method.getName().startsWith(p + "_"));
            told(method.getName() + " is run", String.valueOf(named), String.valueOf(run));
        }
        end();
    }

    private static void runTest(Method method) {
        test = method.getName() + ": ";
        try {
            method.setAccessible(true);
            method.invoke(null);
        } catch (InvocationTargetException thrown) {
            told("the test", "its end", "throws " + thrown.getCause());
        } catch (IllegalAccessException thrown) {
            told("the test", "its end", "throws " + thrown);
        }
    }

    static String outcome(Call made) {
        try {
            return String.valueOf(made.answer());
        } catch (RuntimeException thrown) {
            return "throws." + thrown.getClass().getSimpleName();
        }
    }

    static void told(String call, String want, String got) {
        checked++;
        if (!want.equals(got)) {
            wrong++;
            System.out.println(test + call + " answered " + got + ", due is " + want);
        }
    }

    static void due(String what, boolean want, boolean got) {
        told(what, String.valueOf(want), String.valueOf(got));
    }

    static void end() {
        System.out.println(checked + " checked, " + wrong + " wrong");
        if (wrong != 0 || checked == 0) {
            System.exit(1);
        }
    }
}
