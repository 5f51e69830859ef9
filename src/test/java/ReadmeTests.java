import java.io.IOException;
import java.nio.file.DirectoryStream;
import java.nio.file.Files;
import java.nio.file.Path;
import java.util.ArrayList;
import java.util.List;
import java.util.Map;
import java.util.regex.Matcher;
import java.util.regex.Pattern;

/** What README.md says of the class and of its tests is so. */
public final class ReadmeTests extends Sentences {
    private static final Pattern CALL = Pattern.compile("counts\\.(\\w+\\(.*?\\)); +// (-?\\d+|\\w+Exception).*");
    private static final Pattern TEXT = Pattern.compile("for \\(char c : \"(.*)\"\\.toCharArray\\(\\)\\) \\{");
    private static final Map<String, String> REFUSALS = Map.of("IllegalArgumentException", " !argument",
            "IllegalStateException", " !state", "IndexOutOfBoundsException", " !index");
    private static final int FEWEST_ROWS = 20;

    public static void main(String[] args) {
        new ReadmeTests().runAll(args);
    }

    private static List<String> linesOfReadme() throws IOException {
        return Files.readAllLines(Path.of("README.md"));
    }

    @Sentence("README.md says how to use the class: each line of the example answers what it says.")
    void theExampleAnswersWhatItSays() throws IOException {
        List<String> rows = new ArrayList<>();
        for (String line : linesOfReadme()) {
            Matcher call = CALL.matcher(line);
            Matcher text = TEXT.matcher(line);
            if (text.matches()) {
                rows.add("write(" + text.group(1) + ")");
            } else if (call.matches()) {
                String due = call.group(2);
                rows.add(call.group(1).replaceAll("(\\d)L\\b", "$1") + REFUSALS.getOrDefault(due, " = " + due));
            } else {
                due("line that is not understood: " + line, 0, line.startsWith("counts.") ? 1 : 0);
            }
        }
        due("rows in the example, some " + FEWEST_ROWS, 1, rows.size() >= FEWEST_ROWS ? 1 : 0);
        run(rows);
    }

    @Sentence("README.md says how to run the tests: each test class is named there, and each one named there is.")
    void everyTestClassIsNamed() throws IOException {
        String readme = String.join("\n", linesOfReadme());
        try (DirectoryStream<Path> files = Files.newDirectoryStream(Path.of("src/test/java"), "*Tests.java")) {
            for (Path file : files) {
                due(file + " is named", 1, readme.contains(file.getFileName().toString()) ? 1 : 0);
            }
        }
        Matcher name = Pattern.compile("`(?:src/\\w+/java/)?(\\w+)\\.java`").matcher(readme);
        while (name.find()) {
            Path test = Path.of("src/test/java", name.group(1) + ".java");
            Path main = Path.of("src/main/java", name.group(1) + ".java");
            due(name.group() + " is there", 1, Files.exists(test) || Files.exists(main) ? 1 : 0);
        }
    }

    @Sentence("README.md: java -cp build/ci/own .. runs one test by its name.")
    void theTestsNamedInCommandsAreThere() throws IOException {
        int found = 0;
        for (String line : linesOfReadme()) {
            Matcher command = Pattern.compile("java -cp build/ci/own (\\w+)(?: (\\w+))?").matcher(line);
            if (command.matches()) {
                found++;
                due(line, 1, isThere(command.group(1), command.group(2)) ? 1 : 0);
            }
        }
        due("commands, some", 1, Math.min(1, found));
    }

    private static boolean isThere(String kind, String test) {
        try {
            Class<?> found = Class.forName(kind);
            return test == null || found.getDeclaredMethod(test).isAnnotationPresent(Sentence.class);
        } catch (ReflectiveOperationException thrown) {
            return false;
        }
    }
}
