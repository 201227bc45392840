import java.lang.reflect.InvocationTargetException;
import java.lang.reflect.Method;
import java.util.Arrays;
import java.util.Comparator;

/**
 * Runs Promise01 to Promise44: each has the edges of that promise, a test of its own for each sentence
 * of the document that names one. A test is a static method that takes a Due.
 */
public final class BoundaryTest {
    private static final int PROMISES = 44;

    public static void main(String[] args) throws ReflectiveOperationException {
        Due t = new Due();
        int tests = 0;
        for (int i = 1; i <= PROMISES; i++) {
            int of = runAll(Class.forName(String.format("Promise%02d", i)), t);
            t.in("Promise" + i);
            t.due("has tests", of > 0 ? 1 : 0, 1);
            tests += of;
        }
        System.out.println(tests + " tests of edges");
        t.end();
    }

    private static int runAll(Class<?> promise, Due t) throws ReflectiveOperationException {
        Method[] methods = promise.getDeclaredMethods();
        Arrays.sort(methods, Comparator.comparing(Method::getName));
        int tests = 0;
        for (Method m : methods) {
            if (Arrays.equals(m.getParameterTypes(), new Class<?>[] {Due.class})) {
                tests++;
                t.in(promise.getName() + "." + m.getName());
                run(m, t);
            }
        }
        return tests;
    }

    private static void run(Method test, Due t) throws ReflectiveOperationException {
        test.setAccessible(true);
        try {
            test.invoke(null, t);
        } catch (InvocationTargetException e) {
            e.getCause().printStackTrace(System.out);
            t.due("no call throws", 1, 0);
        }
    }
}
