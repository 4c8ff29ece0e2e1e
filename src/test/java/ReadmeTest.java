import java.io.IOException;
import java.lang.reflect.Method;
import java.lang.reflect.Modifier;
import java.nio.charset.StandardCharsets;
import java.nio.file.Files;
import java.nio.file.Path;
import java.util.ArrayList;
import java.util.List;
import java.util.TreeSet;
import java.util.regex.Matcher;
import java.util.regex.Pattern;
import java.util.stream.Stream;

/** README.md holds as it stands: its example is there and prints what it says, and no call and no test is left out. */
public final class ReadmeTest {
    private static final Path README = Path.of("README.md");
    private static final Path EXAMPLE = Path.of("src/example/java/Example.java");
    private static final Path TESTS = Path.of("src/test/java");
    private static final Path RUN = Path.of(".ci/run");

    public static void main(String[] args) throws IOException, InterruptedException {
        String text = Files.readString(README);
        exampleIsTheFile(text);
        exampleRuns(text);
        testsRun(text);
        Check.same("the calls in the table", namesInRows(section(text, "Use")), publicMethods());
        Check.same("the tests in the table", namesInRows(section(text, "Tests")), testClasses());
        pathsAreThere(text);
        Check.finish();
    }

    private static void exampleIsTheFile(String text) throws IOException {
        Check.same("the example", blocks(text, "java"), List.of(Files.readString(EXAMPLE)));
    }

    private static void exampleRuns(String text) throws IOException, InterruptedException {
        String use = section(text, "Use");
        List<String> commands = blocks(use, "sh");
        Check.same("the blocks of commands for the example", commands.size(), 1);
        for (String command : commands) {
            Check.same("what the example prints", List.of(printedBy(command)), blocks(use, "text"));
        }
    }

    private static void testsRun(String text) {
        Check.same("the command for the tests", blocks(section(text, "Tests"), "sh"), List.of(RUN + "\n"));
        Check.same(RUN + " can be run", Files.isExecutable(RUN), true);
    }

    private static String printedBy(String command) throws IOException, InterruptedException {
        Process process = new ProcessBuilder("sh", "-e", "-c", command).redirectErrorStream(true).start();
        String printed = new String(process.getInputStream().readAllBytes(), StandardCharsets.UTF_8);
        Check.same("the exit code of the example's commands", process.waitFor(), 0);
        return printed;
    }

    /** The text from this heading up to the next one. */
    private static String section(String text, String heading) {
        int start = text.indexOf("\n## " + heading + "\n");
        int end = text.indexOf("\n## ", start + 1);
        Check.same("the section " + heading + " is there", start >= 0, true);
        return text.substring(Math.max(start, 0), end < 0 ? text.length() : end);
    }

    private static List<String> blocks(String text, String kind) {
        List<String> found = new ArrayList<>();
        Matcher matcher = Pattern.compile("```" + kind + "\n(.*?)```", Pattern.DOTALL).matcher(text);
        while (matcher.find()) {
            found.add(matcher.group(1));
        }
        return found;
    }

    /** What stands between backticks in the rows of a table and is the name of a call, or of a test as their first. */
    private static TreeSet<String> namesInRows(String text) {
        TreeSet<String> found = new TreeSet<>();
        for (String line : text.split("\n")) {
            Matcher matcher = Pattern.compile("`(\\w+)`").matcher(line);
            boolean isOfTests = line.startsWith("| `");
            while (line.startsWith("| ") && matcher.find()) {
                found.add(matcher.group(1));
                if (isOfTests) {
                    break;
                }
            }
        }
        return found;
    }

    private static TreeSet<String> publicMethods() {
        TreeSet<String> found = new TreeSet<>();
        for (Method method : Crossdockery.class.getDeclaredMethods()) {
            if (Modifier.isPublic(method.getModifiers())) {
                found.add(method.getName());
            }
        }
        return found;
    }

    private static TreeSet<String> testClasses() throws IOException {
        TreeSet<String> found = new TreeSet<>();
        try (Stream<Path> files = Files.list(TESTS)) {
            files.map(file -> file.getFileName().toString())
                    .filter(name -> name.endsWith("Test.java"))
                    .forEach(name -> found.add(name.replace(".java", "")));
        }
        return found;
    }

    private static void pathsAreThere(String text) {
        Matcher matcher = Pattern.compile("`((?:src|\\.\\./shared)/[^`*]+)`").matcher(text);
        while (matcher.find()) {
            Check.same(matcher.group(1) + " is there", Files.exists(Path.of(matcher.group(1))), true);
        }
    }
}
