import java.io.IOException;
import java.lang.reflect.Field;
import java.lang.reflect.Method;
import java.lang.reflect.Modifier;
import java.nio.file.Files;
import java.nio.file.Path;
import java.util.ArrayList;
import java.util.Arrays;
import java.util.List;
import java.util.regex.Matcher;
import java.util.regex.Pattern;

/** What can be told of LANGUAGE.md by looking at the source and the classes: words, static fields, sizes. */
final class LanguageTest {

    private static final String[] FORBIDDEN = {"->", "::", "\\btry\\b", "\\bcatch\\b", "\\bfinally\\b",
        "\\bsynchronized\\b", "\\bassert\\b", "\\bpackage\\b", "\\bprotected\\b", "\\bequals\\b",
        "\\bhashCode\\b", "\\btoString\\b", "\\w+Exact\\b", "\\bSystem\\.(?!arraycopy\\b)", "\\bThread\\b",
        "\\bRandom\\b", "\\b(?:byte|short|float)\\b", "\\bvar\\b", "\\bwhile\\b", "\\?\\s*>",
        "^import (?!java\\.util\\.Arrays;)"};
    private static final int LONGEST_METHOD = 60;
    private static final int MOST_PARAMETERS = 7;
    private static final int MOST_CLASSES = 12;
    private static final int MOST_FIELDS = 20;

    private LanguageTest() {
    }

    static void whole_language_words() throws IOException {
        String code = code();
        for (String word : FORBIDDEN) {
            Matcher matcher = Pattern.compile(word, Pattern.MULTILINE).matcher(code);
            Check.same("the source holds " + word, matcher.find(), false);
        }
        for (int i = 0; i < code.length(); i++) {
            Check.same("character " + i + " is plain", code.charAt(i) < 127, true);
        }
    }

    static void whole_language_shortMethods() throws IOException {
        String[] lines = code().split("\n");
        for (int opened = 0; opened < lines.length; opened++) {
            if (lines[opened].matches("(    |        )\\S.*\\{") && !lines[opened].contains(" class ")) {
                Check.same("line " + (opened + 1) + " begins a short block",
                        closedAt(lines, opened) - opened <= LONGEST_METHOD, true);
            }
        }
    }

    private static List<Class<?>> classes() {
        List<Class<?>> classes = new ArrayList<>(Arrays.asList(NestedEnvelopes.class.getDeclaredClasses()));
        classes.add(NestedEnvelopes.class);
        return classes;
    }

    static void whole_language_staticFieldsAreFinal() {
        for (Class<?> each : classes()) {
            for (Field field : each.getDeclaredFields()) {
                int modifiers = field.getModifiers();
                boolean mayChange = Modifier.isStatic(modifiers) && !Modifier.isFinal(modifiers);
                Check.same(field + " may change", mayChange, false);
            }
        }
    }

    static void whole_language_sizes() {
        Check.same("at most so many classes", classes().size() <= MOST_CLASSES, true);
        for (Class<?> each : classes()) {
            int fields = 0;
            for (Field field : each.getDeclaredFields()) {
                fields += Modifier.isStatic(field.getModifiers()) ? 0 : 1;
            }
            Check.same(each + " has few fields", fields <= MOST_FIELDS, true);
            for (Method method : each.getDeclaredMethods()) {
                Check.same(method + " has few parameters", method.getParameterCount() <= MOST_PARAMETERS, true);
            }
        }
    }

    private static int closedAt(String[] lines, int opened) {
        String indent = lines[opened].replaceAll("\\S.*", "");
        for (int line = opened + 1; line < lines.length; line++) {
            if (lines[line].startsWith(indent + "}")) {
                return line;
            }
        }
        return Integer.MAX_VALUE;
    }

    private static String code() throws IOException {
        String source = Files.readString(Path.of(AllTests.source()));
        return source.replaceAll("(?s)/\\*.*?\\*/", "").replaceAll("//[^\n]*", "");
    }
}
