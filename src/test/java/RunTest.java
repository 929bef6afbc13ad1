import java.io.IOException;
import java.nio.file.Files;
import java.nio.file.Path;
import java.util.Comparator;
import java.util.List;
import java.util.stream.Stream;

/**
 * The command that README.md names for the tests runs them: it is tried out in small projects of one
 * shared test and one own test, in which one or the other has a fault. The commands for one test by
 * itself are tried out here.
 */
public final class RunTest {
    private static final String GOOD = "", FAILS = "System.exit(1);", THROWS = "int[] a = {}; a[0]++;", NO_JAVA = "nothing";
    private static int wrong = 0;

    record Ended(int code, String said) {
    }

    private static void due(boolean holds, String what, Ended ended) {
        if (holds) return;
        wrong++;
        System.out.println("not as due: " + what + "; it ended with " + ended.code + " and said:\n" + ended.said);
    }

    public static void main(String[] args) throws Exception {
        List<String> commands = Readme.blocks("sh");
        String command = commands.get(0).strip();
        Path script = Path.of(command);
        due(Files.isExecutable(script), command + " can be run", new Ended(0, ""));
        Path room = Files.createTempDirectory("run");
        try {
            passes(inProject(room.resolve("good"), script, GOOD, GOOD));
            fails(inProject(room.resolve("shared-fails"), script, FAILS, GOOD), "a shared test fails");
            fails(inProject(room.resolve("shared-throws"), script, THROWS, GOOD), "a shared test throws");
            fails(inProject(room.resolve("shared-no-java"), script, NO_JAVA, GOOD), "a shared test does not compile");
            fails(inProject(room.resolve("own-fails"), script, GOOD, FAILS), "an own test fails");
            fails(inProject(room.resolve("own-no-java"), script, GOOD, NO_JAVA), "an own test does not compile");
            fails(inProject(room.resolve("no-shared"), script, null, GOOD), "there is no shared test");
            fails(inProject(room.resolve("no-own"), script, GOOD, null), "there is no own test");
            for (String byItself : commands.subList(1, commands.size())) {
                Ended ended = run(Path.of("."), room, byItself);
                due(ended.code == 0, "the commands " + byItself, ended);
            }
        } finally {
            clear(room);
        }
        System.out.println(wrong == 0 ? "the command runs the tests" : wrong + " are not as due");
        if (wrong != 0) System.exit(1);
    }

    private static void passes(Ended ended) {
        due(ended.code == 0, "all tests pass", ended);
        due(ended.said.contains("shared began"), "the shared test is run", ended);
        due(ended.said.contains("deeper began"), "a shared test in a directory below is run", ended);
        due(ended.said.contains("own began"), "the own test is run", ended);
    }

    private static void fails(Ended ended, String why) {
        due(ended.code != 0, "the command fails, as " + why, ended);
        due(!ended.said.contains("all tests passed"), "it does not tell that all passed, as " + why, ended);
    }

    /** A fault is a line of the test; null: there is no such test. */
    private static Ended inProject(Path at, Path script, String sharedFault, String ownFault) throws Exception {
        Path main = at.resolve("main");
        Path copy = main.resolve(script);
        Files.createDirectories(copy.getParent());
        Files.copy(script, copy);
        copy.toFile().setExecutable(true);
        write(main.resolve("src/main/java/WeighCourt.java"), "public final class WeighCourt { }");
        Files.createDirectories(main.resolve("src/test/java"));
        Files.createDirectories(at.resolve("shared/tests"));
        if (sharedFault != null) {
            test(at.resolve("shared/tests/SharedRuns.java"), "shared", sharedFault);
            test(at.resolve("shared/tests/below/DeeperRuns.java"), "deeper", GOOD);
        }
        if (ownFault != null) test(main.resolve("src/test/java/OwnTest.java"), "own", ownFault);
        return run(main, at, script.toString());
    }

    private static void test(Path file, String name, String fault) throws IOException {
        String type = file.getFileName().toString().replace(".java", "");
        write(file, "public final class " + type + " {\n    public static void main(String[] args) {\n"
            + "        new WeighCourt();\n        System.out.println(\"" + name + " began\");\n        " + fault + "\n    }\n}\n");
    }

    private static void write(Path file, String text) throws IOException {
        Files.createDirectories(file.getParent());
        Files.writeString(file, text);
    }

    private static Ended run(Path at, Path room, String commands) throws Exception {
        ProcessBuilder shell = new ProcessBuilder("sh", "-e", "-c", commands);
        shell.directory(at.toFile());
        shell.environment().put("TMPDIR", room.toAbsolutePath().toString());
        shell.redirectErrorStream(true);
        Process running = shell.start();
        running.getOutputStream().close();
        String said = new String(running.getInputStream().readAllBytes());
        return new Ended(running.waitFor(), said);
    }

    private static void clear(Path room) throws IOException {
        try (Stream<Path> all = Files.walk(room)) {
            for (Path one : all.sorted(Comparator.reverseOrder()).toList()) Files.delete(one);
        }
    }
}
