import java.io.IOException;
import java.lang.reflect.Method;
import java.nio.file.Files;
import java.nio.file.Path;
import java.util.ArrayList;
import java.util.List;

/** Each sentence of the document's Terms and promises is quoted by a test, and each quote stands there. */
final class DocTest {

    private static final int PROMISES = 34;
    private static final String[] NO_CASE = {"Inns, covers", "The constants:",
        "All numbers are integers, except for deliveredShare()."};

    private DocTest() {
    }

    /** The Terms at 0, and the promises at their numbers. */
    private static List<String> sections() throws IOException {
        List<String> sections = new ArrayList<>();
        for (int number = 0; number <= PROMISES; number++) {
            sections.add("");
        }
        int current = -1;
        for (String line : Files.readAllLines(Path.of(AllTests.document()))) {
            if (line.startsWith("## ")) {
                current = numberOf(line);
            } else if (current >= 0 && !line.startsWith("#") && !isOnlyOfOrder(line)) {
                sections.set(current, sections.get(current) + withoutFace(line) + "\n");
            }
        }
        return sections;
    }

    private static int numberOf(String heading) {
        if (heading.equals("## Terms")) {
            return 0;
        }
        return heading.startsWith("## Promise ") ? Integer.parseInt(heading.replaceAll("\\D", "")) : -1;
    }

    // Most of these lines say but how the face is grouped.
    private static boolean isOnlyOfOrder(String line) {
        return line.startsWith("Ahead of the calls") && !line.contains(";");
    }

    // FaceTest looks at the face.
    private static String withoutFace(String line) {
        return line.replaceAll("^`[^`]*\\(.*?\\)[^`]*`: ", "");
    }

    private static int sectionOf(Method test) {
        return test.getName().startsWith("promise") ? Integer.parseInt(test.getName().substring(7, 9)) : 0;
    }

    private static boolean mark(String section, String quote, boolean[] said) {
        int at = section.indexOf(quote);
        boolean isFound = at >= 0;
        while (at >= 0) {
            for (int i = at; i < at + quote.length(); i++) {
                said[i] = true;
            }
            at = section.indexOf(quote, at + 1);
        }
        return isFound;
    }

    static void whole_eachSentenceHasATest() throws IOException {
        List<String> sections = sections();
        List<Method> tests = AllTests.tests();
        for (int number = 0; number <= PROMISES; number++) {
            String section = sections.get(number);
            boolean[] said = new boolean[section.length()];
            for (String quote : NO_CASE) {
                mark(section, quote, said);
            }
            for (Method test : tests) {
                if (test.isAnnotationPresent(Says.class) && sectionOf(test) == number) {
                    for (String quote : test.getAnnotation(Says.class).value()) {
                        Check.same("the document says '" + quote + "' in " + number, mark(section, quote, said), true);
                    }
                }
            }
            Check.sameText("what no test says of " + number, unsaid(section, said), "");
        }
    }

    private static String unsaid(String section, boolean[] said) {
        StringBuilder left = new StringBuilder();
        for (int i = 0; i < said.length; i++) {
            left.append(said[i] ? ' ' : section.charAt(i));
        }
        String words = left.toString().replaceAll("\\s+", " ");
        return words.matches("[^\\p{Alnum}]*") ? "" : words;
    }

    static void whole_eachTestSaysWhatItIsOf() {
        for (Method test : AllTests.tests()) {
            if (!test.getName().startsWith("whole_")) {
                Check.same(test.getName() + " quotes the document", test.isAnnotationPresent(Says.class), true);
            }
        }
    }
}
