import java.io.IOException;
import java.nio.file.Files;
import java.nio.file.Path;
import java.util.List;
import java.util.Map;
import java.util.regex.Matcher;
import java.util.regex.Pattern;
import java.util.stream.Stream;

/** Each sentence of the document, from its terms to its last promise, is named by a test that looks at it. */
final class SentencesTest {
    private static final Pattern NAMED = Pattern.compile("Check\\.sentence\\(\"([^\"]*)\",\\s*((?:\"[^\"]*\"[\\s+]*)+)\\)");
    private static final Pattern REFUSED = Pattern.compile("refuseFills\\(((?:\"[^\"]*\"[\\s+]*)+),");
    private static final Pattern BY_NUMBER = Pattern.compile(
            "Check\\.sentence\\(\"Promise \" \\+ PROMISES\\[i\\], \"([^\"]*)\"\\)");
    private static final int[] PROMISES = {18, 19, 20, 21, 22, 23, 24, 25, 26, 27};

    private SentencesTest() {
    }

    public static void main(String[] args) throws IOException {
        StringBuilder sources = new StringBuilder();
        try (Stream<Path> files = Files.list(Path.of("src/test/java"))) {
            for (Path file : files.sorted().toList()) {
                sources.append(Files.readString(file));
            }
        }
        List<String[]> named = new java.util.ArrayList<>();
        for (Matcher m = NAMED.matcher(sources); m.find();) {
            named.add(new String[] {m.group(1), joined(m.group(2))});
        }
        for (Matcher m = REFUSED.matcher(sources); m.find();) {
            named.add(new String[] {"Promise 2", joined(m.group(1))});
        }
        for (Matcher m = BY_NUMBER.matcher(sources); m.find();) {
            for (int promise : PROMISES) {
                named.add(new String[] {"Promise " + promise, m.group(1)});
            }
        }
        int sentences = 0;
        for (Map.Entry<String, List<String>> section : Doc.sections().entrySet()) {
            for (String sentence : section.getValue()) {
                sentences++;
                boolean isToTest = !sentence.startsWith("Ahead of the calls") && !sentence.startsWith("A coder of moving");
                boolean isNamed = !isToTest || named.stream().anyMatch(
                        words -> words[0].equals(section.getKey()) && sentence.contains(words[1]));
                Check.same(section.getKey() + ": " + sentence, isNamed ? "named" : "named by no test", "named");
            }
        }
        int count = sentences;
        Check.due("the document has many sentences", () -> count > 200, true);
        Check.end("SentencesTest");
    }

    /** The text of literals that are joined by signs "+". */
    private static String joined(String literals) {
        StringBuilder text = new StringBuilder();
        for (Matcher m = Pattern.compile("\"([^\"]*)\"").matcher(literals); m.find();) {
            text.append(m.group(1));
        }
        return text.toString();
    }
}
