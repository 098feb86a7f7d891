import java.lang.reflect.InvocationTargetException;
import java.lang.reflect.Method;
import java.util.ArrayList;
import java.util.Arrays;
import java.util.Comparator;
import java.util.List;
import java.util.Set;
import java.util.TreeSet;

/** Runs every method whose name begins with "promise" and its number; its argument is the source's path. */
public final class AllTests {

    private static final Class<?>[] TESTS = {InnsTest.class, RoadsTest.class, EnvelopesTest.class,
        ForecastsTest.class, OrderTextTest.class, UndoTest.class, FaceTest.class, LanguageTest.class,
        ModelTest.class};
    private static final int PROMISES = 34;
    private static final int MOST_LINES = 10;

    private static String source = "src/main/java/NestedEnvelopes.java";

    private AllTests() {
    }

    static String source() {
        return source;
    }

    public static void main(String[] args) throws ReflectiveOperationException {
        if (args.length > 0) {
            source = args[0];
        }
        int passed = 0;
        int failed = 0;
        Set<String> promises = new TreeSet<>();
        for (Class<?> test : TESTS) {
            for (Method method : methodsOf(test)) {
                promises.add(method.getName().substring(0, "promise00".length()));
                if (passes(method)) {
                    passed++;
                } else {
                    failed++;
                }
            }
        }
        if (promises.size() != PROMISES) {
            System.out.println("only these promises have a test: " + promises);
            failed++;
        }
        System.out.println(passed + " passed, " + failed + " failed");
        if (failed > 0) {
            System.exit(1);
        }
    }

    private static List<Method> methodsOf(Class<?> test) {
        List<Method> methods = new ArrayList<>();
        for (Method method : test.getDeclaredMethods()) {
            if (method.getName().matches("promise[0-9][0-9]_.*")) {
                methods.add(method);
            }
        }
        methods.sort(Comparator.comparing(Method::getName));
        return methods;
    }

    private static boolean passes(Method method) throws ReflectiveOperationException {
        String thrown = "";
        try {
            method.invoke(null);
        } catch (InvocationTargetException e) {
            thrown = e.getCause() + " at " + Arrays.toString(e.getCause().getStackTrace());
        }
        List<String> wrong = Check.takeWrong();
        if (!thrown.isEmpty()) {
            wrong.add("threw " + thrown);
        }
        for (String line : wrong.subList(0, Math.min(MOST_LINES, wrong.size()))) {
            System.out.println(method.getName() + ": " + line);
        }
        return wrong.isEmpty();
    }
}
