import java.lang.reflect.InvocationTargetException;
import java.lang.reflect.Method;
import java.lang.reflect.Modifier;
import java.util.Arrays;
import java.util.Comparator;

/** Collects the calls whose answer is not the one that is due. */
final class Due {
    private static String test = "";
    private static int wrong;
    private static int calls;
    private static int tests;

    private Due() {
    }

    static void is(String call, long got, long want) {
        calls++;
        if (got != want) fail(call + " answered " + got + ", due is " + want);
    }

    static void isTrue(String what, boolean holds) {
        calls++;
        if (!holds) fail(what + ": it is not so");
    }

    private static void fail(String what) {
        wrong++;
        System.out.println(test + what);
    }

    /** Runs each static method of a class that takes nothing, answers nothing and is not private: a test each. */
    static void runTests(Class<?> of) {
        Method[] methods = of.getDeclaredMethods();
        Arrays.sort(methods, Comparator.comparing(Method::getName));
        for (Method m : methods) {
            boolean isTest = Modifier.isStatic(m.getModifiers()) && !Modifier.isPrivate(m.getModifiers())
                && m.getParameterCount() == 0 && m.getReturnType() == void.class;
            if (isTest) runTest(of, m);
        }
        end();
    }

    private static void runTest(Class<?> of, Method m) {
        test = of.getName() + "." + m.getName() + ": ";
        int before = calls;
        tests++;
        try {
            m.invoke(null);
            if (calls == before) fail("it tells nothing");
        } catch (InvocationTargetException e) {
            fail("threw " + e.getCause());
        } catch (IllegalAccessException e) {
            fail("can not be called");
        }
        test = "";
    }

    /** Every test class ends here: the exit code tells whether all was as due. */
    static void end() {
        if (calls == 0) fail("nothing was told");
        String many = tests == 0 ? calls + " answers" : tests + " tests, " + calls + " answers";
        System.out.println(wrong == 0 ? many + " are as due" : wrong + " answers are not as due");
        if (wrong != 0) System.exit(1);
    }
}
