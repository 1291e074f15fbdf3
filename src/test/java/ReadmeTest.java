import java.io.IOException;
import java.nio.file.Files;
import java.nio.file.Path;
import java.nio.file.StandardCopyOption;
import java.util.List;
import java.util.Set;
import java.util.TreeSet;
import java.util.regex.MatchResult;
import java.util.regex.Matcher;
import java.util.regex.Pattern;
import java.util.stream.Collectors;
import java.util.stream.Stream;

/** README.md, followed word for word: its example, its commands, and what its tables name. */
public final class ReadmeTest {
    private static final Path README = Path.of("README.md");
    private static final Path SOURCE = Path.of("src/main/java/FilmPlayer.java");
    private static final Path TESTS = Path.of("src/test/java");
    // a checkout in small, so that following the page leaves nothing in this one
    private static final Path PLACE = Path.of("build/readme");
    private static final Pattern BLOCK = Pattern.compile("(?s)\n```(\\w+)\n(.*?)```\n");
    private static final List<String> BLOCKS = List.of("java", "sh", "text", "sh");
    private static final Pattern ROW = Pattern.compile("(?m)^\\| (`[^|]*) \\|");
    private static final Pattern QUOTED = Pattern.compile("`(\\w+)`");
    private static final Pattern CALL = Pattern.compile("(?m)^ *public [^=\n]*? (\\w+)\\([^\n]*\\{$");

    private static final Check CHECK = new Check("ReadmeTest");

    public static void main(String[] args) throws IOException, InterruptedException {
        String page = Files.readString(README);
        List<MatchResult> blocks = BLOCK.matcher(page).results().toList();
        CHECK.due("blocks", blocks.stream().map(block -> block.group(1)).toList().toString(), BLOCKS.toString());
        if (blocks.size() == BLOCKS.size()) {
            exampleRuns(blocks.get(0).group(2), blocks.get(1).group(2), blocks.get(2).group(2));
            testsAreRunBy(blocks.get(3).group(2));
        }
        tablesNameAll(page);
        CHECK.end();
    }

    private static void exampleRuns(String example, String commands, String output)
            throws IOException, InterruptedException {
        Files.createDirectories(PLACE.resolve(SOURCE).getParent());
        Files.copy(SOURCE, PLACE.resolve(SOURCE), StandardCopyOption.REPLACE_EXISTING);
        Files.writeString(PLACE.resolve("Example.java"), example);
        Process run = new ProcessBuilder("sh", "-e", "-c", commands)
            .directory(PLACE.toFile()).redirectError(ProcessBuilder.Redirect.INHERIT).start();
        String printed = new String(run.getInputStream().readAllBytes());
        CHECK.due("the example's exit code", run.waitFor(), 0);
        CHECK.due("the example", printed, output);
    }

    /** The script is running by now: it is only looked at, not run once more. */
    private static void testsAreRunBy(String command) {
        CHECK.due("the command that runs the tests", command, ".ci/run\n");
        CHECK.due("it is executable", Files.isExecutable(Path.of(".ci/run")), true);
    }

    /** The first table names the calls, the second one the tests: all that there are, and no others. */
    private static void tablesNameAll(String page) throws IOException {
        Set<String> named = new TreeSet<>();
        Matcher row = ROW.matcher(page);
        while (row.find()) {
            Matcher quoted = QUOTED.matcher(row.group(1));
            while (quoted.find()) {
                CHECK.due(quoted.group(1) + " is named once", named.add(quoted.group(1)), true);
            }
        }
        Set<String> due = new TreeSet<>();
        Matcher call = CALL.matcher(Files.readString(SOURCE));
        while (call.find()) {
            due.add(call.group(1));
        }
        try (Stream<Path> files = Files.list(TESTS)) {
            due.addAll(files.map(file -> file.getFileName().toString()).filter(name -> name.endsWith("Test.java"))
                .map(name -> name.replace(".java", "")).collect(Collectors.toSet()));
        }
        CHECK.due("what the tables name", named.toString(), due.toString());
    }
}
