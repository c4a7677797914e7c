import java.io.IOException;
import java.lang.reflect.Method;
import java.lang.reflect.Modifier;
import java.nio.file.Files;
import java.nio.file.Path;
import java.util.ArrayList;
import java.util.List;
import java.util.regex.Matcher;
import java.util.regex.Pattern;
import java.util.stream.Stream;
import javax.tools.ToolProvider;

/**
 * README.md shows the class's use and the way to run its tests: its examples are made into code and
 * run, and so are its commands. It looks for README.md in the folder that it is started in.
 */
public final class ReadmeTest {
    private static final String FENCE = "```";
    private static final List<String> ALL_TESTS = List.of(".ci/run");
    private static final Pattern CALL = Pattern.compile("(list\\.\\w+\\(.*\\)); +// (true|false|-?\\d+)(: .+)?");
    private static final Pattern NAMED_TEST = Pattern.compile("`(\\w+Test)`");
    private static final Path TESTS = Path.of("src/test/java");
    // Beside the compiled tests, so that what is made here goes when they go.
    private static final Path FOLDER = Path.of(System.getProperty("java.class.path")).toAbsolutePath();

    public static void main(String[] args) throws Exception {
        List<String> lines = Files.readAllLines(Path.of("README.md"));
        List<List<String>> examples = blocks(lines, "java");
        everyCallIsShown(examples);
        answersAreAsShown(examples);
        commandsRun(blocks(lines, "sh"));
        testsAreNamed(String.join("\n", lines));
        Due.end();
    }

    private static List<List<String>> blocks(List<String> lines, String kind) {
        List<List<String>> all = new ArrayList<>();
        List<String> open = null;
        for (String line : lines) {
            if (line.equals(FENCE + kind)) {
                open = new ArrayList<>();
            } else if (line.equals(FENCE) && open != null) {
                all.add(open);
                open = null;
            } else if (open != null) {
                open.add(line);
            }
        }
        Due.is("every block of " + kind + " has an end", open == null, true);
        Due.is("there are blocks of " + kind, all.isEmpty(), false);
        return all;
    }

    private static void everyCallIsShown(List<List<String>> examples) {
        for (Method m : WatchList.class.getDeclaredMethods()) {
            if (Modifier.isPublic(m.getModifiers())) {
                String start = "list." + m.getName() + "(";
                boolean shown = examples.stream().flatMap(List::stream).anyMatch(line -> line.startsWith(start));
                Due.is("README.md shows " + m.getName(), shown, true);
            }
        }
    }

    private static void answersAreAsShown(List<List<String>> examples) throws Exception {
        Path source = FOLDER.resolve("ReadmeExamples.java");
        Files.writeString(source, asCode(examples));
        int failed = ToolProvider.getSystemJavaCompiler().run(null, null, null,
                "--release", "17", "-cp", FOLDER.toString(), "-d", FOLDER.toString(), source.toString());
        Due.is("the examples compile", failed, 0);
        if (failed == 0) {
            Object examplesRun = Class.forName("ReadmeExamples").getDeclaredConstructor().newInstance();
            Due.sentence("README.md", (Runnable) examplesRun);
        }
    }

    private static String asCode(List<List<String>> examples) {
        StringBuilder code = new StringBuilder("final class ReadmeExamples implements Runnable {\n");
        code.append("public void run() {\n");
        for (List<String> example : examples) {
            code.append("{\n");
            for (String line : example) {
                code.append(asCode(line)).append('\n');
            }
            code.append("}\n");
        }
        return code.append("}\n}\n").toString();
    }

    private static String asCode(String line) {
        Matcher call = CALL.matcher(line);
        if (call.matches()) {
            return "Due.is(\"" + call.group(1) + "\", " + call.group(1) + ", " + call.group(2) + ");";
        }
        Due.is("has no answer: " + line, line.startsWith("list."), false);
        return line;
    }

    private static void commandsRun(List<List<String>> commands) throws Exception {
        Due.is("README.md tells " + ALL_TESTS, commands.contains(ALL_TESTS), true);
        Due.is(ALL_TESTS + " can be run", Files.isExecutable(Path.of(ALL_TESTS.get(0))), true);
        for (List<String> command : commands) {
            // This very test is a part of .ci/run.
            if (!command.equals(ALL_TESTS)) {
                Due.is(String.join("; ", command), exitCode(command), 0);
            }
        }
    }

    private static int exitCode(List<String> command) throws IOException, InterruptedException {
        ProcessBuilder shell = new ProcessBuilder("bash", "-eu", "-c", String.join("\n", command));
        shell.environment().put("TMPDIR", FOLDER.toString());
        return shell.inheritIO().start().waitFor();
    }

    private static void testsAreNamed(String readme) throws IOException {
        try (Stream<Path> files = Files.list(TESTS)) {
            files.map(file -> file.getFileName().toString().replace(".java", ""))
                    .forEach(name -> Due.is("README.md names " + name, readme.contains("`" + name + "`"), true));
        }
        Matcher named = NAMED_TEST.matcher(readme);
        while (named.find()) {
            Path file = TESTS.resolve(named.group(1) + ".java");
            Due.is(file + " is there", Files.isRegularFile(file), true);
        }
    }
}
