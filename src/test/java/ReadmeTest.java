import java.io.IOException;
import java.lang.reflect.Method;
import java.lang.reflect.Modifier;
import java.net.URL;
import java.net.URLClassLoader;
import java.nio.file.Files;
import java.nio.file.Path;
import java.util.ArrayList;
import java.util.Comparator;
import java.util.List;
import java.util.concurrent.Callable;
import java.util.regex.Matcher;
import java.util.regex.Pattern;
import java.util.stream.Stream;
import javax.tools.JavaCompiler;
import javax.tools.ToolProvider;

/**
 * README.md tells the truth: its examples compile and give the answers that stand behind the calls,
 * its table has every call of the face, and the files that it names are there.
 */
public final class ReadmeTest {
    private static final Path README = Path.of("README.md");
    private static final Path TESTS = Path.of("src/test/java");
    private static final Pattern BLOCK = Pattern.compile("```java\n(.*?)```", Pattern.DOTALL);
    private static final Pattern MADE = Pattern.compile("ClockPool pool = new ClockPool\\(\\d+\\);.*");
    // A call, kept in a variable or not, and the answer that is told first behind it.
    private static final Pattern LINE = Pattern.compile(
            "(?:int (\\w+) = )?(pool\\.(\\w+)\\(.*?\\)); +// (-?\\d+|true|false|FULL|NONE|throws \\w+): .+");

    private static int answers = 0;

    public static void main(String[] args) throws Exception {
        String readme = Files.readString(README);
        givesTheAnswersOfItsExamples(readme);
        hasEveryCallInItsTable(readme);
        namesFilesThatAreThere(readme);
        tellsOfEveryTest(readme);
        Run.finish();
    }

    private static void givesTheAnswersOfItsExamples(String readme) throws Exception {
        List<String> blocks = blocks(readme);
        Run.holds("README.md has examples", !blocks.isEmpty());
        Path out = Files.createTempDirectory("readme");
        int calls = 0;
        for (int i = 0; i < blocks.size(); i++) {
            runExample("ReadmeExample" + i, blocks.get(i), out);
            calls += blocks.get(i).split("\n").length - 1;
        }
        Run.holds("every call of the examples was made: " + answers + " of " + calls, answers == calls);
        deleteAll(out);
    }

    private static List<String> blocks(String readme) {
        List<String> blocks = new ArrayList<>();
        Matcher block = BLOCK.matcher(readme);
        while (block.find()) {
            blocks.add(block.group(1));
        }
        return blocks;
    }

    private static void runExample(String name, String block, Path out) throws Exception {
        Path source = out.resolve(name + ".java");
        Files.writeString(source, program(name, block));
        JavaCompiler compiler = ToolProvider.getSystemJavaCompiler();
        int compiled = compiler.run(null, null, null, "--release", "17",
                "-cp", System.getProperty("java.class.path"), "-d", out.toString(), source.toString());
        Run.holds("the example compiles:\n" + block, compiled == 0);
        if (compiled == 0) {
            URL[] from = {out.toUri().toURL()};
            try (URLClassLoader loader = new URLClassLoader(from, ReadmeTest.class.getClassLoader())) {
                loader.loadClass(name).getMethod("main").invoke(null);
            }
        }
    }

    /** The example as it stands, but that each answer is compared with what is told behind it. */
    private static String program(String name, String block) {
        StringBuilder text = new StringBuilder();
        text.append("public final class ").append(name).append(" {\n");
        text.append("public static void main() {\n");
        for (String line : block.split("\n")) {
            text.append(MADE.matcher(line).matches() ? line : comparing(line)).append('\n');
        }
        return text.append("}\n}\n").toString();
    }

    private static String comparing(String line) {
        Matcher told = LINE.matcher(line);
        if (!told.matches()) {
            Run.holds("a call with its answer behind it: " + line, false);
            return "";
        }
        String variable = told.group(1);
        String call = told.group(2);
        String kept = variable == null ? "" : "int " + variable + " = " + call + ";\n";
        return kept + "ReadmeTest.answers(\"" + call + "\", () -> " + (variable == null ? call : variable)
                + ", \"" + told.group(4) + "\");";
    }

    /** Called by the programs that are made of the examples, from a loader of their own. */
    public static void answers(String call, Callable<Object> made, String told) {
        String answer;
        try {
            answer = String.valueOf(made.call());
        } catch (Exception e) {
            answer = "throws " + e.getClass().getSimpleName();
        }
        answers++;
        String due = told.equals("FULL") ? String.valueOf(ClockPool.FULL)
                : told.equals("NONE") ? String.valueOf(ClockPool.NONE) : told;
        Run.holds(call + " answers " + answer + ", README.md tells " + told, answer.equals(due));
    }

    private static void hasEveryCallInItsTable(String readme) {
        for (Method method : ClockPool.class.getDeclaredMethods()) {
            if (Modifier.isPublic(method.getModifiers())) {
                checkRow(method, readme);
            }
        }
        Run.holds("NONE is told", readme.contains("`ClockPool.NONE` is " + ClockPool.NONE));
        Run.holds("FULL is told", readme.contains("`ClockPool.FULL` is " + ClockPool.FULL));
    }

    private static void checkRow(Method method, String readme) {
        Matcher row = Pattern.compile("\\| `" + method.getName() + "\\(([^)]*)\\)` \\|(.*)\\|").matcher(readme);
        boolean found = row.find();
        Run.holds("the table has " + method.getName(), found);
        if (!found) {
            return;
        }
        int parameters = row.group(1).isEmpty() ? 0 : row.group(1).split(", ").length;
        Run.holds("the table has all parameters of " + method.getName(),
                parameters == method.getParameterCount());
        List<Class<?>> thrown = List.of(method.getExceptionTypes());
        for (Class<?> type : List.of(IllegalArgumentException.class, IllegalStateException.class)) {
            Run.holds("the table is right on " + type.getSimpleName() + " of " + method.getName(),
                    row.group(2).contains(type.getSimpleName()) == thrown.contains(type));
        }
        Run.holds("an example has " + method.getName(), blocks(readme).stream()
                .anyMatch(block -> block.contains("pool." + method.getName() + "(")));
    }

    private static void namesFilesThatAreThere(String readme) {
        Matcher path = Pattern.compile("`((?:\\.\\./|src/|\\.ci/)[\\w./]+)`").matcher(readme);
        while (path.find()) {
            Run.holds("there is " + path.group(1), Files.exists(Path.of(path.group(1))));
        }
        Matcher type = Pattern.compile("`(\\w*Test|Model|Run)`").matcher(readme);
        while (type.find()) {
            Run.holds("there is " + type.group(1), Files.exists(TESTS.resolve(type.group(1) + ".java")));
        }
    }

    private static void tellsOfEveryTest(String readme) throws IOException {
        try (Stream<Path> files = Files.list(TESTS)) {
            for (Path file : files.sorted().toList()) {
                String name = file.getFileName().toString().replace(".java", "");
                String told = name.matches("Promise\\d\\d\\w+Test") ? "PromiseNN...Test"
                        : name.matches("Terms\\w+Test") ? "Terms...Test" : name;
                Run.holds("README.md tells of " + name, readme.contains("`" + told + "`"));
            }
        }
    }

    private static void deleteAll(Path directory) throws IOException {
        try (Stream<Path> files = Files.walk(directory)) {
            for (Path file : files.sorted(Comparator.reverseOrder()).toList()) {
                Files.delete(file);
            }
        }
    }
}
