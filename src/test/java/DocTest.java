import java.io.IOException;
import java.lang.reflect.Method;
import java.nio.file.Files;
import java.nio.file.Path;
import java.util.List;
import java.util.Map;
import java.util.TreeMap;

/** Each sentence of the document is quoted by a test, and each quote stands in the section of its test. */
final class DocTest {

    private static final int SECTIONS = 36;
    private static final String[] NO_CASE = {"Inns, covers", "The constants:",
        "All numbers are integers, except for deliveredShare().", "what later calls answer is free."};

    private DocTest() {
    }

    /** The sections by the names with which their tests begin, but for those that FaceTest compares. */
    private static Map<String, String> sections() throws IOException {
        Map<String, String> sections = new TreeMap<>();
        String current = "";
        for (String line : Files.readAllLines(Path.of(AllTests.document()))) {
            if (line.startsWith("## ")) {
                current = nameOf(line);
            } else if (!current.isEmpty() && !line.startsWith("#") && !isOnlyOfOrder(line)) {
                sections.merge(current, withoutFace(line) + "\n", String::concat);
            }
        }
        return sections;
    }

    private static String nameOf(String heading) {
        if (heading.startsWith("## Promise ")) {
            int number = Integer.parseInt(heading.replaceAll("\\D", ""));
            return number < 10 ? "promise0" + number : "promise" + number;
        }
        if (heading.equals("## What it is")) {
            return "what";
        }
        return heading.equals("## Terms") ? "terms" : "";
    }

    // Most of these lines say but how the face is grouped.
    private static boolean isOnlyOfOrder(String line) {
        return line.startsWith("Ahead of the calls") && !line.contains(";");
    }

    private static String withoutFace(String line) {
        return line.replaceAll("^`[^`]*\\(.*?\\)[^`]*`: ", "");
    }

    private static boolean isOf(Method test, String section) {
        return test.getName().startsWith(section + "_") && test.isAnnotationPresent(Says.class);
    }

    private static boolean mark(String section, String quote, boolean[] said) {
        int at = section.indexOf(quote);
        boolean isFound = at >= 0;
        while (at >= 0) {
            for (int i = at; i < at + quote.length(); i++) {
                said[i] = true;
            }
            at = section.indexOf(quote, at + 1);
        }
        return isFound;
    }

    static void whole_eachSentenceHasATest() throws IOException {
        Map<String, String> sections = sections();
        Check.same("sections", sections.size(), SECTIONS);
        List<Method> tests = AllTests.tests();
        for (Map.Entry<String, String> each : sections.entrySet()) {
            String section = each.getValue();
            boolean[] said = new boolean[section.length()];
            for (String quote : NO_CASE) {
                mark(section, quote, said);
            }
            for (Method test : tests) {
                if (isOf(test, each.getKey())) {
                    for (String quote : test.getAnnotation(Says.class).value()) {
                        Check.same("the document says '" + quote + "' in " + each.getKey(),
                                mark(section, quote, said), true);
                    }
                }
            }
            Check.sameText("what no test says of " + each.getKey(), unsaid(section, said), "");
        }
    }

    private static String unsaid(String section, boolean[] said) {
        StringBuilder left = new StringBuilder();
        for (int i = 0; i < said.length; i++) {
            left.append(said[i] ? ' ' : section.charAt(i));
        }
        String words = left.toString().replaceAll("\\s+", " ");
        return words.matches("[^\\p{Alnum}]*") ? "" : words;
    }

    static void whole_eachTestSaysWhatItIsOf() {
        for (Method test : AllTests.tests()) {
            if (!test.getName().matches("(whole|face)_.*")) {
                Check.same(test.getName() + " quotes the document", test.isAnnotationPresent(Says.class), true);
            }
        }
    }
}
