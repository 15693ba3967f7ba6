import java.io.IOException;
import java.nio.file.Files;
import java.nio.file.Path;
import java.util.Comparator;
import java.util.List;
import java.util.regex.Matcher;
import java.util.regex.Pattern;
import java.util.stream.Stream;

/**
 * README.md's way of running the tests runs them all, and fails if one fails. The command is run in
 * small projects that are made for it, as it would call this test again in the project itself.
 */
public final class CiRunTest {
    private static final Path SCRIPT = Path.of(".ci/run");
    private static final Path MAIN = Path.of("src/main/java/ClockPool.java");
    private static final Path TESTS = Path.of("src/test/java");

    private static final String PASSES = "if (new ClockPool(1).count(0) != 0) System.exit(1);";
    private static final String FAILS = "if (new ClockPool(1).count(0) == 0) System.exit(1);";
    private static final String NO_JAVA = "this is no Java";

    private final String command;
    private final Path root;
    private String output = "";
    private int code;

    private CiRunTest(String command) throws IOException {
        this.command = command;
        root = Files.createTempDirectory("cirun");
        copy(SCRIPT);
        copy(MAIN);
    }

    public static void main(String[] args) throws Exception {
        String command = commandOfTheReadme();
        Run.holds(SCRIPT + " is executable", Files.isExecutable(SCRIPT));
        Run.holds("README.md runs " + SCRIPT + ": " + command, command.contains(SCRIPT.toString()));
        runsEveryTest(command);
        failsIfATestOfTheProjectFails(command);
        failsIfASharedTestFails(command);
        failsIfATestDoesNotCompile(command);
        failsIfThereAreNoSharedTests(command);
        findsEveryTestOfTheProject();
        Run.finish();
    }

    private static String commandOfTheReadme() throws IOException {
        Matcher command = Pattern.compile("## How to run its tests\n\n    (.+)\n")
                .matcher(Files.readString(Path.of("README.md")));
        return command.find() ? command.group(1) : "false";
    }

    private static void runsEveryTest(String command) throws Exception {
        new CiRunTest(command).own("FirstTest", PASSES).own("SecondTest", PASSES)
                .shared("tests/Third", PASSES).shared("tests/deeper/Fourth", PASSES)
                .run().ends(true, "FirstTest", "SecondTest", "Third", "Fourth");
    }

    private static void failsIfATestOfTheProjectFails(String command) throws Exception {
        new CiRunTest(command).own("FirstTest", FAILS).own("SecondTest", PASSES)
                .shared("tests/Third", PASSES)
                .run().ends(false, "FirstTest", "SecondTest", "Third");
    }

    private static void failsIfASharedTestFails(String command) throws Exception {
        new CiRunTest(command).own("FirstTest", PASSES)
                .shared("tests/Third", FAILS).shared("tests/Fourth", PASSES)
                .run().ends(false, "FirstTest", "Third", "Fourth");
    }

    private static void failsIfATestDoesNotCompile(String command) throws Exception {
        new CiRunTest(command).own("FirstTest", PASSES)
                .shared("tests/Third", NO_JAVA).shared("tests/Fourth", PASSES)
                .run().ends(false, "FirstTest", "Fourth");
        new CiRunTest(command).own("FirstTest", PASSES).own("SecondTest", NO_JAVA)
                .shared("tests/Third", PASSES)
                .run().ends(false, "Third");
    }

    private static void failsIfThereAreNoSharedTests(String command) throws Exception {
        new CiRunTest(command).own("FirstTest", PASSES).run().ends(false, "FirstTest");
    }

    // The script knows a test by the end of its name: none may hide behind another name.
    private static void findsEveryTestOfTheProject() throws IOException {
        try (Stream<Path> files = Files.walk(TESTS)) {
            for (Path file : files.filter(Files::isRegularFile).toList()) {
                boolean test = Files.readString(file).contains("static void main(");
                Run.holds(file + " is a test if it has a main method",
                        test == file.toString().endsWith("Test.java"));
            }
        }
    }

    private void copy(Path file) throws IOException {
        write(root.resolve("main").resolve(file), Files.readString(file));
    }

    private CiRunTest own(String name, String does) throws IOException {
        return probe(root.resolve("main").resolve(TESTS), name, does);
    }

    private CiRunTest shared(String name, String does) throws IOException {
        return probe(root.resolve("shared"), name, does);
    }

    private CiRunTest probe(Path directory, String path, String does) throws IOException {
        Path file = directory.resolve(path + ".java");
        String name = Path.of(path).getFileName().toString();
        write(file, "public final class " + name + " {\n"
                + "    public static void main(String[] args) {\n"
                + "        System.out.println(\"probe " + name + "\");\n"
                + "        " + does + "\n    }\n}\n");
        return this;
    }

    private static void write(Path file, String text) throws IOException {
        Files.createDirectories(file.getParent());
        Files.writeString(file, text);
    }

    private CiRunTest run() throws IOException, InterruptedException {
        Process process = new ProcessBuilder("bash", "-c", command)
                .directory(root.resolve("main").toFile()).redirectErrorStream(true).start();
        output = new String(process.getInputStream().readAllBytes());
        code = process.waitFor();
        deleteAll();
        return this;
    }

    private void ends(boolean well, String... probes) {
        Run.holds("exit code " + code + " of:\n" + output, code == (well ? 0 : 1));
        for (String probe : List.of(probes)) {
            Run.holds(probe + " was run:\n" + output, output.contains("probe " + probe + "\n"));
        }
    }

    private void deleteAll() throws IOException {
        try (Stream<Path> files = Files.walk(root)) {
            for (Path file : files.sorted(Comparator.reverseOrder()).toList()) {
                Files.delete(file);
            }
        }
    }
}
