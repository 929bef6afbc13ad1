import java.io.IOException;
import java.lang.reflect.Method;
import java.lang.reflect.Modifier;
import java.net.URL;
import java.net.URLClassLoader;
import java.nio.file.Files;
import java.nio.file.Path;
import java.util.ArrayList;
import java.util.List;
import java.util.Set;
import java.util.TreeSet;
import java.util.regex.Matcher;
import java.util.regex.Pattern;
import java.util.stream.Stream;
import javax.tools.ToolProvider;

/** The calls that README.md shows answer as it says; it names each call of the class and each test. */
public final class ReadmeTest {
    private static final Path TESTS = Path.of("src/test/java");
    private static final String MADE = "WeighCourt court = new WeighCourt();";
    /** A call, perhaps kept under a name, and behind it what it answers. */
    private static final Pattern CALL = Pattern.compile("(?:int (\\w+) = )?(court\\.\\w+\\(.*\\)); +// (\\S+): \\S.*");
    private static int wrong = 0;

    private static void due(boolean holds, String what) {
        if (holds) return;
        wrong++;
        System.out.println("not as due: " + what);
    }

    public static void main(String[] args) throws Exception {
        List<String> examples = Readme.blocks("java");
        due(!examples.isEmpty(), "README.md has an example");
        Path dir = Files.createTempDirectory("readme");
        for (int i = 0; i < examples.size(); i++) answersAsTold(dir, "Example" + i, examples.get(i));
        try (Stream<Path> made = Files.list(dir)) {
            for (Path file : made.toList()) Files.delete(file);
        }
        Files.delete(dir);
        callsAreNamed();
        testsAreNamed();
        System.out.println(wrong == 0 ? "README.md keeps its word" : wrong + " are not as due");
        if (wrong != 0) System.exit(1);
    }

    private static void answersAsTold(Path dir, String name, String example) throws Exception {
        List<String> calls = new ArrayList<>();
        List<String> told = new ArrayList<>();
        StringBuilder code = new StringBuilder("public class " + name + " {\n"
            + "    public static java.util.List<Long> answers() {\n"
            + "        java.util.List<Long> answers = new java.util.ArrayList<>();\n");
        for (String line : example.lines().toList()) {
            Matcher call = CALL.matcher(line);
            if (line.equals(MADE)) {
                code.append(line).append('\n');
            } else if (call.matches()) {
                String kept = call.group(1) == null ? "answer" + calls.size() : call.group(1);
                code.append("int ").append(kept).append(" = ").append(call.group(2)).append(";\n")
                    .append("answers.add((long) ").append(kept).append(");\n");
                calls.add(call.group(2));
                told.add(call.group(3));
            } else {
                due(line.isBlank(), "README.md tells what this answers: " + line);
            }
        }
        code.append("        return answers;\n    }\n}\n");
        due(!calls.isEmpty(), name + " has calls");
        List<?> answers = run(dir, name, code.toString());
        due(answers.size() == calls.size(), name + " answers each call");
        for (int i = 0; i < answers.size(); i++) {
            due(answers.get(i).equals(number(told.get(i))),
                calls.get(i) + " answers " + answers.get(i) + ", README.md says " + told.get(i));
        }
    }

    private static List<?> run(Path dir, String name, String code) throws Exception {
        Path file = dir.resolve(name + ".java");
        Files.writeString(file, code);
        int failed = ToolProvider.getSystemJavaCompiler().run(null, null, null, "--release", "17",
            "-cp", System.getProperty("java.class.path"), "-d", dir.toString(), file.toString());
        due(failed == 0, name + " compiles");
        if (failed != 0) return List.of();
        try (URLClassLoader loader = new URLClassLoader(new URL[] {dir.toUri().toURL()})) {
            return (List<?>) loader.loadClass(name).getMethod("answers").invoke(null);
        }
    }

    /** A constant's name, or a number. */
    private static Object number(String told) throws Exception {
        if (told.matches("-?\\d+")) return Long.parseLong(told);
        return (long) WeighCourt.class.getField(told).getInt(null);
    }

    private static void callsAreNamed() throws IOException {
        String text = Readme.text();
        for (Method m : WeighCourt.class.getDeclaredMethods()) {
            if (!Modifier.isPublic(m.getModifiers())) continue;
            due(text.contains("`" + m.getName() + "`"), "README.md names " + m.getName());
        }
    }

    private static void testsAreNamed() throws IOException {
        Set<String> named = new TreeSet<>();
        Matcher names = Pattern.compile("`(\\w+Test)`").matcher(Readme.text());
        while (names.find()) named.add(names.group(1));
        Set<String> there = new TreeSet<>();
        try (Stream<Path> files = Files.list(TESTS)) {
            for (Path file : files.toList()) {
                String name = file.getFileName().toString().replace(".java", "");
                boolean hasMain = Files.readString(file).contains("public static void main(");
                due(hasMain == name.endsWith("Test"), name + " is run by .ci/run if it is a test");
                if (hasMain) there.add(name);
            }
        }
        due(named.equals(there), "README.md names the tests " + there + ", not " + named);
    }
}
