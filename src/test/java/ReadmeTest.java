import java.io.IOException;
import java.lang.reflect.Method;
import java.lang.reflect.Modifier;
import java.nio.charset.StandardCharsets;
import java.nio.file.Files;
import java.nio.file.Path;
import java.util.ArrayList;
import java.util.Comparator;
import java.util.List;
import java.util.Set;
import java.util.TreeSet;
import java.util.regex.Matcher;
import java.util.regex.Pattern;
import java.util.stream.Stream;

/** What README.md says holds: its example's answers, its commands, and that it names every call and every test. */
public final class ReadmeTest {
    private static final Check CHECK = new Check("ReadmeTest");
    private static final Path README = Path.of("README.md");
    private static final Path PROGRAM = Path.of("src/main/java/LineLearner.java");
    private static final Path TESTS = Path.of("src/test/java");
    private static final String RUN_EXAMPLE = "java -cp out Example";
    /** A line of the example that prints an answer, and the answer; a reason may follow it. */
    private static final Pattern ANSWERED = Pattern.compile("\\s*System\\.out\\.println\\((.*)\\);\\s+// ([^:]+)(: .*)?");

    public static void main(String[] args) throws IOException, InterruptedException {
        String page = Files.readString(README);
        List<String> examples = blocks(page, "java");
        CHECK.same("the number of examples", examples.size(), 1);
        String example = examples.get(0);
        String text = page.replace(example, "");
        namesCalls("the text", text);
        namesCalls("the example", example);
        namesTests(text);
        CHECK.same("it tells of .ci/run", blocks(page, "sh").contains(".ci/run\n"), true);
        Path folder = Files.createTempDirectory("readme");
        try {
            runCommands(folder, page, example);
        } finally {
            delete(folder);
        }
        CHECK.finish();
    }

    private static List<String> blocks(String page, String language) {
        return found(page, "(?ms)^```" + language + "\n(.*?)^```$");
    }

    private static List<String> found(String text, String pattern) {
        List<String> found = new ArrayList<>();
        Matcher m = Pattern.compile(pattern).matcher(text);
        while (m.find()) {
            found.add(m.group(1));
        }
        return found;
    }

    private static void namesCalls(String where, String text) {
        for (Method method : LineLearner.class.getDeclaredMethods()) {
            if (Modifier.isPublic(method.getModifiers())) {
                boolean isNamed = Pattern.compile("\\b" + method.getName() + "\\(").matcher(text).find();
                CHECK.same(where + " names the call " + method.getName(), isNamed, true);
            }
        }
        CHECK.same(where + " names the constructor", text.contains("new LineLearner()"), true);
    }

    private static void namesTests(String text) throws IOException {
        Set<String> due = new TreeSet<>();
        try (Stream<Path> files = Files.list(TESTS)) {
            files.map(file -> file.getFileName().toString()).filter(name -> name.endsWith("Test.java"))
                    .forEach(name -> due.add(name.replace(".java", "")));
        }
        Set<String> named = new TreeSet<>();
        for (String row : found(text, "(?m)^\\|([^|]*)\\|[^|]*\\|$")) {
            named.addAll(found(row, "`(\\w+Test)`"));
        }
        CHECK.same("the tests in the table", named.toString(), due.toString());
    }

    /** As a user does, with his own code beside a copy of the project. */
    private static void runCommands(Path folder, String page, String example) throws IOException, InterruptedException {
        copy(PROGRAM, folder);
        try (Stream<Path> files = Files.list(TESTS)) {
            for (Path file : files.toList()) {
                copy(file, folder);
            }
        }
        Files.writeString(folder.resolve("Example.java"), example);
        boolean isExampleRun = false;
        for (String block : blocks(page, "sh")) {
            for (String command : block.split("\n")) {
                // .ci/run is what runs this test.
                if (!command.equals(".ci/run")) {
                    List<String> printed = run(folder, command);
                    if (command.equals(RUN_EXAMPLE)) {
                        isExampleRun = true;
                        answersAre(example, printed);
                    }
                }
            }
        }
        CHECK.same("it tells how the example is run", isExampleRun, true);
    }

    private static void copy(Path file, Path folder) throws IOException {
        Path to = folder.resolve(file);
        Files.createDirectories(to.getParent());
        Files.copy(file, to);
    }

    private static List<String> run(Path folder, String command) throws IOException, InterruptedException {
        List<String> words = new ArrayList<>();
        for (String word : command.split(" ")) {
            if (word.endsWith("/*.java")) {
                words.addAll(javaFiles(folder, word.replace("/*.java", "")));
            } else {
                words.add(word);
            }
        }
        Path out = folder.resolve("printed.txt");
        Process process = new ProcessBuilder(words).directory(folder.toFile())
                .redirectError(ProcessBuilder.Redirect.INHERIT).redirectOutput(out.toFile()).start();
        CHECK.same(command + " ends with", process.waitFor(), 0);
        return Files.readAllLines(out, StandardCharsets.UTF_8);
    }

    private static List<String> javaFiles(Path folder, String inside) throws IOException {
        List<String> found = new ArrayList<>();
        try (Stream<Path> files = Files.list(folder.resolve(inside))) {
            files.filter(file -> file.toString().endsWith(".java")).sorted()
                    .forEach(file -> found.add(folder.relativize(file).toString()));
        }
        return found;
    }

    private static void answersAre(String example, List<String> printed) {
        int at = 0;
        for (String line : example.split("\n")) {
            if (line.contains("println")) {
                Matcher m = ANSWERED.matcher(line);
                CHECK.same("an answer stands behind" + line, m.matches(), true);
                if (m.matches()) {
                    CHECK.same(m.group(1), at < printed.size() ? printed.get(at) : "nothing", m.group(2));
                }
                at++;
            }
        }
        CHECK.same("the number of answers", printed.size(), at);
    }

    private static void delete(Path folder) throws IOException {
        try (Stream<Path> inside = Files.walk(folder)) {
            for (Path one : inside.sorted(Comparator.reverseOrder()).toList()) {
                Files.delete(one);
            }
        }
    }
}
