import java.io.ByteArrayOutputStream;
import java.io.IOException;
import java.io.PrintStream;
import java.net.URL;
import java.net.URLClassLoader;
import java.nio.charset.StandardCharsets;
import java.nio.file.Files;
import java.nio.file.Path;
import java.util.ArrayList;
import java.util.Comparator;
import java.util.List;
import java.util.TreeSet;
import java.util.regex.Matcher;
import java.util.regex.Pattern;
import java.util.stream.Stream;
import javax.tools.ToolProvider;

/** What README.md says: its example, its tables of calls, and its list of tests. */
final class ReadmeTest {
    private static final Pattern EXAMPLE = Pattern.compile("```java\n(.*?)```", Pattern.DOTALL);
    private static final Pattern PRINTED = Pattern.compile("System\\.out\\.println\\(.*\\); +// ([^:]+): .*");
    private static final Pattern FACE_CALL = Pattern.compile(" +public (\\w+ \\w+\\(.*\\))(?: throws (.*))?;");
    private static final Pattern THROWN = Pattern.compile("`(\\w+Exception)`: ");
    private static final Pattern NAMED_TEST = Pattern.compile("`(\\w+Test)`(?=[,:])");

    private ReadmeTest() {
    }

    public static void main(String[] args) throws Exception {
        String readme = Files.readString(Path.of("README.md"));
        example(readme);
        calls(readme, Files.readAllLines(Path.of("../shared/DOC.md")));
        tests(readme);
        Check.end("ReadmeTest");
    }

    /** The example compiles without a warning, and prints line by line what stands ahead of the colons. */
    private static void example(String readme) throws Exception {
        Matcher block = EXAMPLE.matcher(readme);
        String program = block.find() ? block.group(1) : "";
        List<String> want = new ArrayList<>();
        int prints = 0;
        for (String line : program.split("\n")) {
            prints += line.contains("println") ? 1 : 0;
            Matcher printed = PRINTED.matcher(line.strip());
            if (printed.matches()) {
                want.add(printed.group(1));
            }
        }
        int count = prints;
        Check.due("the example prints much", () -> count > 15, true);
        Check.due("each line that is printed has its comment", want::size, count);
        Check.same("the example", String.join("\n", printedBy(program)), String.join("\n", want));
    }

    private static List<String> printedBy(String program) throws Exception {
        Path folder = Files.createTempDirectory("readme");
        PrintStream out = System.out;
        ByteArrayOutputStream printed = new ByteArrayOutputStream();
        URL[] classes = {folder.toUri().toURL()};
        // not the test's own loader, which could know another Example
        try (URLClassLoader loader = new URLClassLoader(classes, ClassLoader.getPlatformClassLoader())) {
            Path source = Files.writeString(folder.resolve("Example.java"), program);
            int failed = ToolProvider.getSystemJavaCompiler().run(null, null, null, "-Xlint:all", "-Werror", "-d",
                    folder.toString(), source.toString(), "src/main/java/BlockCast.java");
            Check.due("the example compiles", () -> failed, 0);
            if (failed == 0) {
                System.setOut(new PrintStream(printed, true, StandardCharsets.US_ASCII));
                loader.loadClass("Example").getMethod("main", String[].class).invoke(null, (Object) new String[0]);
            }
        } finally {
            System.setOut(out);
            remove(folder);
        }
        return printed.toString(StandardCharsets.US_ASCII).lines().toList();
    }

    private static void remove(Path folder) throws IOException {
        try (Stream<Path> files = Files.walk(folder)) {
            for (Path file : files.sorted(Comparator.reverseOrder()).toList()) {
                Files.delete(file);
            }
        }
    }

    /** The rows of the tables are the calls of the document's face, in its order, with what they throw. */
    private static void calls(String readme, List<String> document) {
        List<String> want = new ArrayList<>();
        for (String line : document) {
            Matcher call = FACE_CALL.matcher(line);
            if (call.matches()) {
                want.add(call.group(1) + (call.group(2) == null ? "" : ": " + call.group(2)));
            }
        }
        List<String> got = new ArrayList<>();
        for (String line : readme.split("\n")) {
            if (line.startsWith("| `")) {
                got.add(rowAsFace(line));
            }
        }
        Check.due("the document has 36 calls", want::size, 36);
        Check.same("the tables of calls", String.join("\n", got), String.join("\n", want));
    }

    private static String rowAsFace(String row) {
        String[] cells = row.split(" \\| ?");
        List<String> thrown = new ArrayList<>();
        for (Matcher m = THROWN.matcher(cells.length > 2 ? cells[2] : ""); m.find();) {
            thrown.add(m.group(1));
        }
        String call = cells[0].substring(3, cells[0].length() - 1);
        return thrown.isEmpty() ? call : call + ": " + String.join(", ", thrown);
    }

    /** The list of tests names those that .ci/run runs, which is there to be run. */
    private static void tests(String readme) throws IOException {
        TreeSet<String> named = new TreeSet<>();
        for (Matcher m = NAMED_TEST.matcher(readme); m.find();) {
            named.add(m.group(1));
        }
        TreeSet<String> there = new TreeSet<>();
        try (Stream<Path> files = Files.list(Path.of("src/test/java"))) {
            for (Path file : files.toList()) {
                String name = file.getFileName().toString().replace(".java", "");
                if (name.endsWith("Test")) {
                    there.add(name);
                }
            }
        }
        Check.due("the list of tests", () -> named, there);
        Check.due("README.md says how to run them", () -> readme.contains("\n.ci/run\n"), true);
        Check.due(".ci/run can be run", () -> Files.isExecutable(Path.of(".ci/run")), true);
    }
}
