import java.lang.reflect.InvocationTargetException;
import java.lang.reflect.Method;
import java.util.ArrayList;
import java.util.Arrays;
import java.util.Comparator;
import java.util.List;

/**
 * Runs every method whose name begins with "promise" and its number, "what", "face", "terms" or "whole";
 * its arguments are the paths of the source, the document and README.md.
 */
public final class AllTests {

    private static final Class<?>[] TESTS = {WhatTest.class, FaceTest.class, TermsTest.class,
        EnvelopeTermsTest.class, OrderTermsTest.class, UndoTermsTest.class, InnsTest.class, RoadsTest.class,
        EnvelopesTest.class, ForecastsTest.class, OrderTextTest.class, UndoTest.class, DocTest.class,
        LanguageTest.class, ReadmeTest.class, ModelTest.class};
    private static final int MOST_LINES = 10;

    private static String source = "src/main/java/NestedEnvelopes.java";
    private static String document = "../shared/DOC.md";
    private static String readme = "README.md";

    private AllTests() {
    }

    static String source() {
        return source;
    }

    static String document() {
        return document;
    }

    static String readme() {
        return readme;
    }

    static Class<?>[] classes() {
        return TESTS.clone();
    }

    public static void main(String[] args) throws ReflectiveOperationException {
        if (args.length > 2) {
            source = args[0];
            document = args[1];
            readme = args[2];
        }
        int passed = 0;
        int failed = 0;
        for (Method test : tests()) {
            if (passes(test)) {
                passed++;
            } else {
                failed++;
            }
        }
        System.out.println(passed + " passed, " + failed + " failed");
        if (failed > 0 || passed == 0) {
            System.exit(1);
        }
    }

    static List<Method> tests() {
        List<Method> methods = new ArrayList<>();
        for (Class<?> test : TESTS) {
            for (Method method : test.getDeclaredMethods()) {
                if (method.getName().matches("(promise[0-9][0-9]|what|face|terms|whole)_.*")) {
                    methods.add(method);
                }
            }
        }
        methods.sort(Comparator.comparing(Method::getName));
        return methods;
    }

    private static boolean passes(Method method) throws ReflectiveOperationException {
        String thrown = "";
        try {
            method.invoke(null);
        } catch (InvocationTargetException e) {
            thrown = e.getCause() + " at " + Arrays.toString(e.getCause().getStackTrace());
        }
        List<String> wrong = Check.takeWrong();
        if (!thrown.isEmpty()) {
            wrong.add("threw " + thrown);
        }
        for (String line : wrong.subList(0, Math.min(MOST_LINES, wrong.size()))) {
            System.out.println(method.getName() + ": " + line);
        }
        return wrong.isEmpty();
    }
}
