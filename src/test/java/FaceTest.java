import java.io.IOException;
import java.lang.reflect.Constructor;
import java.lang.reflect.Field;
import java.lang.reflect.Method;
import java.lang.reflect.Modifier;
import java.nio.file.Files;
import java.nio.file.Path;
import java.util.ArrayList;
import java.util.Arrays;
import java.util.HashSet;
import java.util.List;
import java.util.Set;
import java.util.TreeSet;
import java.util.regex.Matcher;
import java.util.regex.Pattern;

/** The public face is the document's, and nothing beside it can be seen from outside. */
final class FaceTest {

    private static final String I = "IndexOutOfBoundsException";
    private static final String A = "IllegalArgumentException";
    private static final String S = "IllegalStateException";

    private static final String[] METHODS = {
        "boolean setOpen(int,boolean) " + I, "int setKey(int,int) " + I + "," + A, "boolean isOpen(int) " + I,
        "int key(int) " + I, "int cover(int,int) " + I + "," + A, "int uncover(int,int) " + I + "," + A,
        "int lay(int,int,int,int) " + I + "," + A + "," + S, "int takeUp() " + S, "int roads() ",
        "int inn(int,int) " + I, "int hall(int) " + I, "boolean stands(int) " + I, "int see(int,int,int) " + I,
        "int known(int) " + I, "int send(int,int) " + I + "," + A + "," + S,
        "int answer(int,int) " + I + "," + A + "," + S, "int pass(int) " + A, "int envelopes() ",
        "int envelope(int,int) " + I, "int letter(int) " + I, "int lastAnswer() ", "int count(int) " + I,
        "double deliveredShare() ", "int lostIfClosed(int) " + I, "int ticksTo(int) " + I,
        "int leastWork(int) " + I, "int append(int) " + A + "," + S, "int clearText() ", "int firstError() ",
        "int run() " + A, "int undo() " + S, "int savedStates() ", "long digest() "};

    private FaceTest() {
    }

    static void face_constants() throws ReflectiveOperationException {
        Check.same("NONE", NestedEnvelopes.NONE, -1);
        Check.same("TRAVELLER", NestedEnvelopes.TRAVELLER, 8);
        Set<String> visible = new TreeSet<>();
        for (Field field : NestedEnvelopes.class.getDeclaredFields()) {
            if (!Modifier.isPrivate(field.getModifiers())) {
                visible.add(Modifier.toString(field.getModifiers()) + " " + field.getType() + " " + field.getName());
            }
        }
        Check.sameText("fields", visible.toString(),
                "[public static final int NONE, public static final int TRAVELLER]");
    }

    static void face_class() {
        int modifiers = NestedEnvelopes.class.getModifiers();
        Check.same("public final", Modifier.isPublic(modifiers) && Modifier.isFinal(modifiers), true);
        Constructor<?>[] constructors = NestedEnvelopes.class.getDeclaredConstructors();
        Check.same("constructors", constructors.length, 1);
        Check.sameText("constructor", constructors[0].toString(), "public NestedEnvelopes()");
        for (Class<?> inside : NestedEnvelopes.class.getDeclaredClasses()) {
            Check.same(inside + " is public", Modifier.isPublic(inside.getModifiers()), false);
            Check.same(inside + " is protected", Modifier.isProtected(inside.getModifiers()), false);
            Check.same(inside + " is static", Modifier.isStatic(inside.getModifiers()), true);
        }
    }

    static void face_methods() {
        Set<String> visible = new TreeSet<>();
        Set<String> names = new HashSet<>();
        List<String> hidden = new ArrayList<>();
        for (Method method : NestedEnvelopes.class.getDeclaredMethods()) {
            if (Modifier.isPrivate(method.getModifiers())) {
                hidden.add(method.getName());
            } else {
                visible.add(signature(method));
                names.add(method.getName());
            }
        }
        Check.sameText("methods", visible.toString(), new TreeSet<>(Arrays.asList(METHODS)).toString());
        for (Class<?> inside : NestedEnvelopes.class.getDeclaredClasses()) {
            for (Method method : inside.getDeclaredMethods()) {
                hidden.add(method.getName());
            }
        }
        hidden.retainAll(names);
        Check.sameText("hidden methods with a public one's name", hidden.toString(), "[]");
    }

    // ---- the face as the document writes it, with the names of the parameters

    /** All that is public in the source, as the document would write it. */
    private static List<String> publicInSource() throws IOException {
        List<String> found = new ArrayList<>();
        Matcher matcher = Pattern.compile("\\bpublic [^;{]*[;{]").matcher(LanguageTest.code());
        while (matcher.find()) {
            String text = matcher.group().replaceAll("\\s+", " ").replaceAll(" ?[;{]$", "");
            found.add(text.contains("class") ? text + " {" : text + ";");
        }
        return found;
    }

    static void face_isWrittenAsInTheDocument() throws IOException {
        List<String> due = new ArrayList<>();
        for (String line : Files.readAllLines(Path.of(AllTests.document()))) {
            if (line.strip().startsWith("public ")) {
                due.add(line.strip());
            }
        }
        Check.sameText("all that is public", String.join("\n", publicInSource()), String.join("\n", due));
    }

    static void face_promisesHaveTheirMethods() throws IOException {
        List<String> methods = publicInSource();
        int promises = 0;
        for (String line : Files.readAllLines(Path.of(AllTests.document()))) {
            Matcher face = Pattern.compile("`([^`]*\\(.*?\\)[^`]*)`: .*").matcher(line);
            if (face.matches()) {
                promises++;
                Check.same("there is " + face.group(1), methods.contains("public " + face.group(1) + ";"), true);
            }
        }
        Check.same("promises", promises, 34);
    }

    static void face_isGroupedAsInTheDocument() throws IOException {
        String source = Files.readString(Path.of(AllTests.source()));
        Pattern group = Pattern.compile("Ahead of the calls (.*) the interface says: (---- .*)\\.");
        int groups = 0;
        for (String line : Files.readAllLines(Path.of(AllTests.document()))) {
            Matcher said = group.matcher(line);
            if (said.matches()) {
                groups++;
                String calls = said.group(1).replace("`", "");
                Check.sameText("the calls behind " + said.group(2), callsBehind(source, said.group(2)), calls);
            }
        }
        Check.same("groups", groups, 6);
    }

    /** The public methods between this comment and the next of its kind. */
    private static String callsBehind(String source, String comment) {
        int start = source.indexOf("    // " + comment + "\n");
        if (start < 0) {
            return "no such comment";
        }
        int next = source.indexOf("    // ----", start + 1);
        List<String> calls = new ArrayList<>();
        Matcher method = Pattern.compile("public \\w+ (\\w+)\\(").matcher(source.substring(start, next));
        while (method.find()) {
            calls.add(method.group(1));
        }
        return String.join(", ", calls);
    }

    private static String signature(Method method) {
        StringBuilder text = new StringBuilder();
        text.append(method.getReturnType()).append(' ').append(method.getName()).append('(');
        String comma = "";
        for (Class<?> type : method.getParameterTypes()) {
            text.append(comma).append(type);
            comma = ",";
        }
        text.append(") ");
        comma = "";
        for (Class<?> type : method.getExceptionTypes()) {
            text.append(comma).append(type.getSimpleName());
            comma = ",";
        }
        return text.toString();
    }
}
