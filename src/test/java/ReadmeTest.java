import java.io.IOException;
import java.lang.reflect.Method;
import java.lang.reflect.Modifier;
import java.nio.file.Files;
import java.nio.file.Path;
import java.util.ArrayList;
import java.util.Comparator;
import java.util.List;
import java.util.regex.Matcher;
import java.util.regex.Pattern;
import java.util.stream.Stream;

/** What README.md shows is so: its example answers what it says there, compiled and run as it says. */
public final class ReadmeTest {
    private static final Checks CHECKS = new Checks("ReadmeTest");
    private static final Path PROGRAM = Path.of("src/main/java/PathReservations.java");
    /** A line that prints, with the answer behind it and, behind a colon, what that means. */
    private static final Pattern ANSWER = Pattern.compile("System\\.out\\.println\\((.*)\\);\\s+// ([^:\n]+)(:.*)?");

    private ReadmeTest() {
    }

    public static void main(String[] args) throws IOException, InterruptedException {
        String readme = Files.readString(Path.of("README.md"));
        String example = block(readme, "java");
        List<String> commands = block(readme, "sh").lines().toList();
        CHECKS.equal("one command to compile and one to run", commands.size(), 2);
        everyCallHasAnAnswer(example);
        exampleAnswers(example, commands);
        tableNamesAllCalls(readme);
        listNamesAllTests(readme);
        CHECKS.end();
    }

    /** The text of the only block of a kind. */
    private static String block(String readme, String kind) {
        Matcher matcher = Pattern.compile("(?s)```" + kind + "\n(.*?)```").matcher(readme);
        String text = matcher.find() ? matcher.group(1) : "";
        CHECKS.same("README has a block of " + kind, !text.isEmpty() && !matcher.find(), true);
        return text;
    }

    /** A call without an answer stands only where it throws, in a try. */
    private static void everyCallHasAnAnswer(String example) {
        List<String> lines = example.lines().toList();
        int answers = 0;
        for (int i = 1; i < lines.size(); i++) {
            String line = lines.get(i);
            boolean answered = ANSWER.matcher(line).find();
            boolean throwing = lines.get(i - 1).strip().equals("try {");
            answers += answered ? 1 : 0;
            if (line.contains("println(")) {
                CHECKS.same(line.strip() + " has an answer or throws", answered != throwing, true);
            }
        }
        CHECKS.same("there are answers", answers > 20, true);
    }

    /** Compared line by line, with the call that the answer belongs to. */
    private static void exampleAnswers(String example, List<String> commands)
            throws IOException, InterruptedException {
        Path folder = Files.createTempDirectory("readme");
        try {
            Files.createDirectories(folder.resolve(PROGRAM).getParent());
            Files.copy(PROGRAM, folder.resolve(PROGRAM));
            Files.writeString(folder.resolve("Example.java"), example);
            List<String> printed = new ArrayList<>();
            for (String command : commands) {
                printed.addAll(run(folder, command));
            }
            Matcher matcher = ANSWER.matcher(example);
            int line = 0;
            for (; matcher.find(); line++) {
                String got = line < printed.size() ? printed.get(line) : "nothing";
                CHECKS.same("answer " + line + ", " + matcher.group(1), got, matcher.group(2).strip());
            }
            CHECKS.equal("number of lines printed", printed.size(), line);
        } finally {
            delete(folder);
        }
    }

    /** Answers the lines that a command prints; errors go where this test's own go. */
    private static List<String> run(Path folder, String command) throws IOException, InterruptedException {
        Path output = folder.resolve("output");
        Process process = new ProcessBuilder(command.split(" ")).directory(folder.toFile())
            .redirectError(ProcessBuilder.Redirect.INHERIT).redirectOutput(output.toFile()).start();
        CHECKS.equal(command, process.waitFor(), 0);
        return Files.readAllLines(output);
    }

    private static void delete(Path folder) throws IOException {
        List<Path> found;
        try (Stream<Path> all = Files.walk(folder)) {
            found = all.sorted(Comparator.reverseOrder()).toList();
        }
        for (Path path : found) {
            Files.delete(path);
        }
    }

    private static void tableNamesAllCalls(String readme) {
        StringBuilder table = new StringBuilder();
        readme.lines().filter(line -> line.startsWith("| ")).forEach(table::append);
        for (Method method : PathReservations.class.getDeclaredMethods()) {
            if (Modifier.isPublic(method.getModifiers())) {
                String name = "`" + method.getName() + "`";
                CHECKS.same("the table names " + name, table.indexOf(name) >= 0, true);
            }
        }
    }

    private static void listNamesAllTests(String readme) throws IOException {
        int found = 0;
        try (Stream<Path> files = Files.list(Path.of("src/test/java"))) {
            for (Path file : files.toList()) {
                String name = file.getFileName().toString().replace(".java", "");
                CHECKS.same("README tells what " + name + " is for", readme.contains("`" + name + "`"), true);
                found++;
            }
        }
        CHECKS.same("there are tests", found > 1, true);
    }
}
