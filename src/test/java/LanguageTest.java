import java.io.IOException;
import java.lang.reflect.Field;
import java.lang.reflect.Method;
import java.lang.reflect.Modifier;
import java.nio.file.Files;
import java.nio.file.Path;
import java.util.ArrayList;
import java.util.Arrays;
import java.util.List;
import java.util.Map;
import java.util.Set;
import java.util.TreeMap;
import java.util.TreeSet;
import java.util.regex.Matcher;
import java.util.regex.Pattern;

/** What can be told of LANGUAGE.md by looking at the source and the classes: words, static fields, sizes. */
final class LanguageTest {

    private static final String[] FORBIDDEN = {"->", "::", "\\btry\\b", "\\bcatch\\b", "\\bfinally\\b",
        "\\bsynchronized\\b", "\\bassert\\b", "\\bpackage\\b", "\\bprotected\\b", "\\bequals\\b",
        "\\bhashCode\\b", "\\btoString\\b", "\\w+Exact\\b", "\\bSystem\\.(?!arraycopy\\b)", "\\bThread\\b",
        "\\bRandom\\b", "\\b(?:byte|short|float)\\b", "\\bvar\\b", "\\bwhile\\b", "\\?\\s*>",
        "^import (?!java\\.util\\.Arrays;)"};
    private static final int LONGEST_METHOD = 60;
    private static final int MOST_PARAMETERS = 7;
    private static final int MOST_CLASSES = 12;
    private static final int MOST_FIELDS = 20;
    private static final int DEEPEST_CALL = 8;

    private LanguageTest() {
    }

    static void whole_language_words() throws IOException {
        String code = code();
        for (String word : FORBIDDEN) {
            Matcher matcher = Pattern.compile(word, Pattern.MULTILINE).matcher(code);
            Check.same("the source holds " + word, matcher.find(), false);
        }
        for (int i = 0; i < code.length(); i++) {
            Check.same("character " + i + " is plain", code.charAt(i) < 127, true);
        }
    }

    static void whole_language_shortMethods() throws IOException {
        String[] lines = code().split("\n");
        for (int opened = 0; opened < lines.length; opened++) {
            if (lines[opened].matches("(    |        )\\S.*\\{") && !lines[opened].contains(" class ")) {
                Check.same("line " + (opened + 1) + " begins a short block",
                        closedAt(lines, opened) - opened <= LONGEST_METHOD, true);
            }
        }
    }

    // What all calls of a run make has its limit, so that only constructors and thrown exceptions make objects.
    static void whole_language_callsMakeNothing() throws IOException {
        String head = "^( +)(?:public )?(?:NestedEnvelopes|State|SavedStates|OrderText)\\(\\) \\{";
        String code = code().replaceAll("(?ms)" + head + ".*?^\\1\\}", "").replace("throw new", "throw");
        for (String word : new String[] {"new", "clone", "copyOf", "copyOfRange", "String", "StringBuilder"}) {
            Check.same("a call uses " + word, Pattern.compile("\\b" + word + "\\b").matcher(code).find(), false);
        }
    }

    static void whole_language_callsAreNotDeep() throws IOException {
        Map<String, Set<String>> callsOf = callsOf();
        Check.same("the source has methods", callsOf.size() > NestedEnvelopes.class.getDeclaredMethods().length, true);
        for (String method : callsOf.keySet()) {
            Check.same(method + " goes at most " + DEEPEST_CALL + " deep",
                    depth(method, callsOf, DEEPEST_CALL + 1) <= DEEPEST_CALL, true);
        }
    }

    /** The methods by their names, with the names of those that they call; the same name is taken for one. */
    private static Map<String, Set<String>> callsOf() throws IOException {
        String[] lines = code().split("\n");
        Pattern method = Pattern.compile("(    |        )[a-z]\\w*(?:\\[\\])?(?: [\\w\\[\\]]+)* (\\w+)\\(.*");
        Map<String, Set<String>> callsOf = new TreeMap<>();
        for (int opened = 0; opened < lines.length; opened++) {
            Matcher head = method.matcher(lines[opened]);
            if (head.matches() && !lines[opened].endsWith(";") && !lines[opened].contains("=")) {
                Set<String> calls = callsOf.computeIfAbsent(head.group(2), name -> new TreeSet<>());
                int closed = closedAt(lines, opened);
                Matcher call = Pattern.compile("(\\w+)\\(")
                        .matcher(String.join("\n", Arrays.asList(lines).subList(opened + 1, closed)));
                while (call.find()) {
                    calls.add(call.group(1));
                }
            }
        }
        return callsOf;
    }

    /** How many calls stand open at once, counted up to a limit, which a call of itself would reach. */
    private static int depth(String method, Map<String, Set<String>> callsOf, int limit) {
        int deepest = 0;
        if (limit > 0) {
            for (String called : callsOf.getOrDefault(method, Set.of())) {
                deepest = Math.max(deepest, depth(called, callsOf, limit - 1));
            }
        }
        return deepest + 1;
    }

    private static List<Class<?>> classes() {
        List<Class<?>> classes = new ArrayList<>(Arrays.asList(NestedEnvelopes.class.getDeclaredClasses()));
        classes.add(NestedEnvelopes.class);
        return classes;
    }

    static void whole_language_staticFieldsAreFinal() {
        for (Class<?> each : classes()) {
            for (Field field : each.getDeclaredFields()) {
                int modifiers = field.getModifiers();
                boolean mayChange = Modifier.isStatic(modifiers) && !Modifier.isFinal(modifiers);
                Check.same(field + " may change", mayChange, false);
            }
        }
    }

    static void whole_language_sizes() {
        Check.same("at most so many classes", classes().size() <= MOST_CLASSES, true);
        for (Class<?> each : classes()) {
            int fields = 0;
            for (Field field : each.getDeclaredFields()) {
                fields += Modifier.isStatic(field.getModifiers()) ? 0 : 1;
            }
            Check.same(each + " has few fields", fields <= MOST_FIELDS, true);
            for (Method method : each.getDeclaredMethods()) {
                Check.same(method + " has few parameters", method.getParameterCount() <= MOST_PARAMETERS, true);
            }
        }
    }

    private static int closedAt(String[] lines, int opened) {
        String indent = lines[opened].replaceAll("\\S.*", "");
        for (int line = opened + 1; line < lines.length; line++) {
            if (lines[line].startsWith(indent + "}")) {
                return line;
            }
        }
        return Integer.MAX_VALUE;
    }

    /** The source without its comments. */
    static String code() throws IOException {
        String source = Files.readString(Path.of(AllTests.source()));
        return source.replaceAll("(?s)/\\*.*?\\*/", "").replaceAll("//[^\n]*", "");
    }
}
