import java.io.IOException;
import java.nio.file.Files;
import java.nio.file.Path;
import java.util.regex.Matcher;
import java.util.regex.Pattern;

/** What can be told of LANGUAGE.md by looking at the source: forbidden words, long methods. */
final class LanguageTest {

    private static final String[] FORBIDDEN = {"->", "::", "\\btry\\b", "\\bcatch\\b", "\\bfinally\\b",
        "\\bsynchronized\\b", "\\bassert\\b", "\\bpackage\\b", "\\bprotected\\b", "\\bequals\\b",
        "\\bhashCode\\b", "\\btoString\\b", "\\w+Exact\\b", "\\bSystem\\.(?!arraycopy\\b)", "\\bThread\\b",
        "\\bRandom\\b", "\\b(?:byte|short|float)\\b", "\\bvar\\b", "\\bwhile\\b", "\\?\\s*>", "^import (?!java\\.util\\.Arrays;)"};
    private static final int LONGEST_METHOD = 60;

    private LanguageTest() {
    }

    static void promise01_language_words() throws IOException {
        String code = code();
        for (String word : FORBIDDEN) {
            Matcher matcher = Pattern.compile(word, Pattern.MULTILINE).matcher(code);
            Check.same("the source holds " + word, matcher.find(), false);
        }
        for (int i = 0; i < code.length(); i++) {
            Check.same("character " + i + " is plain", code.charAt(i) < 127, true);
        }
    }

    static void promise01_language_shortMethods() throws IOException {
        String[] lines = code().split("\n");
        for (int opened = 0; opened < lines.length; opened++) {
            if (lines[opened].matches("(    |        )\\S.*\\{") && !lines[opened].contains(" class ")) {
                Check.same("line " + (opened + 1) + " begins a short block",
                        closedAt(lines, opened) - opened <= LONGEST_METHOD, true);
            }
        }
    }

    private static int closedAt(String[] lines, int opened) {
        String indent = lines[opened].replaceAll("\\S.*", "");
        for (int line = opened + 1; line < lines.length; line++) {
            if (lines[line].startsWith(indent + "}")) {
                return line;
            }
        }
        return Integer.MAX_VALUE;
    }

    private static String code() throws IOException {
        String source = Files.readString(Path.of(AllTests.source()));
        return source.replaceAll("(?s)/\\*.*?\\*/", "").replaceAll("//[^\n]*", "");
    }
}
