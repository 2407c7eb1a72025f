import java.lang.reflect.InvocationTargetException;
import java.lang.reflect.Method;
import java.lang.reflect.Modifier;
import java.util.Map;
import java.util.TreeMap;

/** Compares answers with those that are due, tells each that is not, and ends a test. */
final class Due {
    private static int asked = 0;
    private static int wrong = 0;
    private static String test = "";

    private Due() {
    }

    static boolean is(String what, long got, long want) {
        asked++;
        if (got != want) {
            tell(what + " answered " + got + ", due is " + want);
        }
        return got == want;
    }

    static void same(String what, String got, String want) {
        asked++;
        if (!got.equals(want)) {
            tell(what + " left " + got + ", due is " + want);
        }
    }

    static void end() {
        System.out.println(asked + " answers, " + wrong + " not as due");
        if (wrong != 0 || asked == 0) {
            System.exit(1);
        }
    }

    /** Every test of a class: found by its name, so that none is written and then never run. */
    static void allTestsOf(Class<?> tests) throws IllegalAccessException {
        String promise = "promise" + tests.getSimpleName().replaceAll("\\D", "") + "_";
        Map<String, Method> found = new TreeMap<>();
        for (Method method : tests.getDeclaredMethods()) {
            if (method.getParameterCount() == 0 && method.getReturnType() == void.class && !method.isSynthetic()) {
                found.put(method.getName(), method);
            }
        }
        for (Method method : found.values()) {
            test = method.getName() + ": ";
            if (!method.getName().startsWith(promise) || !Modifier.isStatic(method.getModifiers())) {
                tell("not named by its promise");
            }
            runOne(method);
        }
        test = "";
        System.out.print(found.size() + " tests, ");
        end();
    }

    private static void runOne(Method method) throws IllegalAccessException {
        int before = asked;
        method.setAccessible(true);
        try {
            method.invoke(null);
        } catch (InvocationTargetException thrown) {
            tell("threw " + thrown.getCause());
        }
        if (asked == before) {
            tell("asked for nothing");
        }
    }

    private static void tell(String text) {
        wrong++;
        System.out.println(test + text);
    }
}
