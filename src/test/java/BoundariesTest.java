import java.io.IOException;
import java.nio.file.Files;
import java.nio.file.Path;
import java.util.TreeSet;
import java.util.regex.Matcher;
import java.util.regex.Pattern;

/** BOUNDARIES.md tells the truth: its words stand in the document, and its tests are run. */
public final class BoundariesTest {
    private static final Path LIST = Path.of("src/test/BOUNDARIES.md");
    private static final Path DOCUMENT = Path.of("../shared/DOC.md");
    private static final Pattern TEST = Pattern.compile("`(\\w+)\\.(\\w+)`");

    public static void main(String[] args) throws IOException {
        String document = Files.readString(DOCUMENT);
        TreeSet<String> sections = new TreeSet<>();
        int rows = 0;
        for (String line : Files.readAllLines(LIST)) {
            if (line.startsWith("## Promise ")) {
                sections.add(line);
            }
            if (line.startsWith("| ") && !line.startsWith("| words |")) {
                rows++;
                checkRow(line, document);
            }
        }
        Run.holds("there are rows", rows > 0);
        checkSections(sections, document);
        Run.finish();
    }

    private static void checkRow(String line, String document) throws IOException {
        String[] cells = line.split("\\|");
        Run.holds("three cells: " + line, cells.length == 4);
        String words = cells[1].trim();
        Run.holds("the document says: " + words, document.contains(words));
        Matcher test = TEST.matcher(cells[cells.length - 1]);
        boolean any = false;
        while (test.find()) {
            any = true;
            Run.holds("there is a test " + test.group(), isRun(test.group(1), test.group(2)));
        }
        Run.holds("names a test: " + line, any);
    }

    // A test that is written but that main does not call would never fail.
    private static boolean isRun(String type, String name) throws IOException {
        Path file = Path.of("src/test/java", type + ".java");
        if (!Files.exists(file)) {
            return false;
        }
        String source = Files.readString(file);
        return source.contains(" static void " + name + "(")
                && (name.equals("main") || source.contains(" " + name + "();\n"));
    }

    private static void checkSections(TreeSet<String> sections, String document) {
        for (String line : document.split("\n")) {
            if (line.startsWith("## Promise ")) {
                Run.holds("has a section " + line, sections.contains(line));
            }
        }
    }
}
