import java.io.File;
import java.io.IOException;
import java.nio.charset.StandardCharsets;
import java.nio.file.Files;
import java.nio.file.Path;
import java.util.ArrayList;
import java.util.Comparator;
import java.util.List;
import java.util.TreeSet;
import java.util.regex.MatchResult;
import java.util.regex.Pattern;
import java.util.stream.Stream;

/** Follows README.md: what it says of the use of the class and of the tests is so. */
public final class ReadmeTest {
    private static final Path SOURCE = Path.of("src/main/java/BranchBets.java");
    private static final Path TESTS = Path.of("src/test/java");
    private static final Checks CHECKS = new Checks();

    private final String readme;
    private final String source;

    private ReadmeTest() throws IOException {
        readme = Files.readString(Path.of("README.md"), StandardCharsets.UTF_8);
        source = Files.readString(SOURCE, StandardCharsets.UTF_8);
    }

    public static void main(String[] args) throws IOException, InterruptedException {
        ReadmeTest test = new ReadmeTest();
        test.example();
        test.calls();
        test.errors();
        test.tests();
        CHECKS.end();
    }

    /** Its commands, in a directory that holds nothing but the class and the example. */
    private void example() throws IOException, InterruptedException {
        CHECKS.about("the example");
        Path directory = Files.createTempDirectory("readme");
        try {
            Path copy = directory.resolve(SOURCE);
            Files.createDirectories(copy.getParent());
            Files.copy(SOURCE, copy);
            Files.writeString(directory.resolve("Example.java"), blocks("java").get(0));
            File printed = directory.resolve("printed").toFile();
            Process process = new ProcessBuilder("bash", "-e", "-c", blocks("sh").get(0))
                    .directory(directory.toFile()).redirectErrorStream(true).redirectOutput(printed).start();
            CHECKS.due("the exit code", process.waitFor(), 0);
            String output = Files.readString(printed.toPath());
            CHECKS.that("it prints " + output, output.equals(blocks("text").get(0)));
        } finally {
            delete(directory);
        }
    }

    private static void delete(Path directory) throws IOException {
        try (Stream<Path> all = Files.walk(directory)) {
            for (Path each : all.sorted(Comparator.reverseOrder()).toList()) {
                Files.delete(each);
            }
        }
    }

    /** Its table has the calls of the class with the names of their arguments, in their order. */
    private void calls() {
        CHECKS.about("the calls");
        List<String> told = found(readme, "(?m)^\\| `(\\w+\\([^)]*\\))` \\|");
        List<String> made = new ArrayList<>();
        for (String each : found(source, "(?m)^    public int (\\w+\\([^)]*\\)) \\{")) {
            made.add(each.replace("int ", ""));
        }
        CHECKS.due("calls of the class", made.size(), 25);
        CHECKS.that("they are " + told, told.equals(made));
    }

    private void errors() {
        CHECKS.about("the errors");
        List<String> told = found(readme, "(?m)^\\| (`BranchBets\\.\\w+` \\| -\\d+) \\|");
        List<String> made = List.of(
                "`BranchBets.INVALID_ARGUMENT` | " + BranchBets.INVALID_ARGUMENT,
                "`BranchBets.NOT_POSSIBLE` | " + BranchBets.NOT_POSSIBLE,
                "`BranchBets.LIMIT_REACHED` | " + BranchBets.LIMIT_REACHED,
                "`BranchBets.NOT_FOUND` | " + BranchBets.NOT_FOUND);
        CHECKS.that("they are " + told, told.equals(made));
    }

    /** The command by which they run, and the name of each one of them and of no other one. */
    private void tests() throws IOException {
        CHECKS.about("the tests");
        String command = blocks("sh").get(1).strip();
        CHECKS.that("the command is " + command, command.equals("bash .ci/run"));
        CHECKS.that(".ci/run can not be executed", Files.isExecutable(Path.of(".ci/run")));
        TreeSet<String> told = new TreeSet<>(found(readme, "`(\\w+Test)`"));
        TreeSet<String> made = new TreeSet<>();
        try (Stream<Path> all = Files.list(TESTS)) {
            all.map(each -> each.getFileName().toString()).filter(each -> each.endsWith("Test.java"))
                    .forEach(each -> made.add(each.substring(0, each.indexOf('.'))));
        }
        CHECKS.that("told are " + told + ", there are " + made, told.equals(made));
    }

    private List<String> blocks(String language) {
        return found(readme, "(?ms)^```" + language + "\n(.*?)^```$");
    }

    private static List<String> found(String text, String pattern) {
        return Pattern.compile(pattern).matcher(text).results().map((MatchResult each) -> each.group(1)).toList();
    }
}
