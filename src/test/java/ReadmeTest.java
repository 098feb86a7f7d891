import java.io.IOException;
import java.lang.reflect.Method;
import java.lang.reflect.Modifier;
import java.net.URL;
import java.net.URLClassLoader;
import java.nio.file.Files;
import java.nio.file.Path;
import java.util.ArrayList;
import java.util.List;
import java.util.Set;
import java.util.TreeSet;
import java.util.function.Supplier;
import java.util.regex.Matcher;
import java.util.regex.Pattern;
import java.util.stream.Stream;
import javax.tools.ToolProvider;

/** The calls of README.md are compiled as they stand there, and answer what is said behind them. */
final class ReadmeTest {

    private static final String CLASS = "ReadmeCalls";
    /** A declared name or nothing, a call, and what it answers or throws. */
    private static final Pattern ANSWERED =
            Pattern.compile("(?:(?<type>\\w+) (?<name>\\w+) = )?(?<call>\\S.*?);\\s*// (?<due>.*?)(?:: .*)?");

    private ReadmeTest() {
    }

    /** The lines of each block of Java. */
    private static List<List<String>> blocks() throws IOException {
        List<List<String>> blocks = new ArrayList<>();
        boolean isInside = false;
        for (String line : Files.readAllLines(Path.of(AllTests.readme()))) {
            if (line.startsWith("```")) {
                isInside = line.equals("```java");
                if (isInside) {
                    blocks.add(new ArrayList<>());
                }
            } else if (isInside) {
                blocks.get(blocks.size() - 1).add(line);
            }
        }
        return blocks;
    }

    static void whole_readme_callsAnswerAsSaid() throws IOException, ReflectiveOperationException {
        StringBuilder source = new StringBuilder("public final class " + CLASS
                + " implements java.util.function.Supplier<String> {\n    public String get() {\n"
                + "        StringBuilder got = new StringBuilder();\n");
        List<String> due = new ArrayList<>();
        for (List<String> block : blocks()) {
            source.append("        {\n");
            for (String line : block) {
                Matcher answered = ANSWERED.matcher(line);
                if (answered.matches()) {
                    source.append(statement(answered));
                    due.add(answered.group("call") + " " + answered.group("due"));
                } else {
                    source.append(line).append('\n');
                }
            }
            source.append("        }\n");
        }
        source.append("        return got.toString();\n    }\n}\n");
        String[] got = answers(source.toString()).split("\n");
        Check.same("the number of calls with an answer", got.length, due.size());
        for (int call = 0; call < Math.min(got.length, due.size()); call++) {
            Check.sameText("README.md, call " + call, got[call], due.get(call));
        }
    }

    /** What writes the call and its answer down; a name that is declared stays one for the lines below. */
    private static String statement(Matcher answered) {
        String call = answered.group("call");
        String write = "got.append(\"" + call.replace("\"", "\\\"") + " \").append(";
        if (answered.group("name") != null) {
            String name = answered.group("name");
            return answered.group("type") + " " + name + " = " + call + ";\n" + write + name + ").append('\\n');\n";
        }
        return "try {\nString answer = \"\" + " + call + ";\n" + write + "answer).append('\\n');\n"
                + "} catch (RuntimeException e) {\n" + write
                + "\"throws \" + e.getClass().getSimpleName()).append('\\n');\n}\n";
    }

    private static String answers(String source) throws IOException, ReflectiveOperationException {
        Path folder = Files.createTempDirectory("readme");
        try {
            Path file = folder.resolve(CLASS + ".java");
            Files.writeString(file, source);
            int wrong = ToolProvider.getSystemJavaCompiler().run(null, null, null, "-encoding", "UTF-8",
                    "-cp", System.getProperty("java.class.path"), "-d", folder.toString(), file.toString());
            if (wrong != 0) {
                return "the calls do not compile";
            }
            try (URLClassLoader loader = new URLClassLoader(new URL[] {folder.toUri().toURL()})) {
                Supplier<?> calls = (Supplier<?>) loader.loadClass(CLASS).getConstructor().newInstance();
                return calls.get().toString();
            }
        } finally {
            remove(folder);
        }
    }

    private static void remove(Path folder) throws IOException {
        try (Stream<Path> files = Files.list(folder)) {
            for (Path file : files.toList()) {
                Files.delete(file);
            }
        }
        Files.delete(folder);
    }

    static void whole_readme_showsEachMethod() throws IOException {
        Set<String> shown = new TreeSet<>();
        for (List<String> block : blocks()) {
            Matcher call = Pattern.compile("post\\.(\\w+)\\(").matcher(String.join("\n", block));
            while (call.find()) {
                shown.add(call.group(1));
            }
        }
        Set<String> face = new TreeSet<>();
        for (Method method : NestedEnvelopes.class.getDeclaredMethods()) {
            if (Modifier.isPublic(method.getModifiers())) {
                face.add(method.getName());
            }
        }
        Check.sameText("the methods in README.md", shown.toString(), face.toString());
    }

    static void whole_readme_namesEachTest() throws IOException {
        String text = Files.readString(Path.of(AllTests.readme()));
        for (Class<?> test : AllTests.classes()) {
            Check.same("README.md names " + test.getName(), text.contains("`" + test.getName() + "`"), true);
        }
    }
}
