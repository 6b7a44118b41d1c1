import java.io.IOException;
import java.nio.file.Files;
import java.nio.file.Path;
import java.util.ArrayList;
import java.util.LinkedHashMap;
import java.util.List;
import java.util.Map;

/** The sentences of ../shared/DOC.md, by their section: "Promise 7", or the name of a paragraph before the promises. */
final class Doc {
    private static final List<String> NAMES = List.of("Canvas", "Settings", "Pictures", "Guesses", "Vectors", "Levels",
            "Smoothing", "The arithmetic coder", "What is coded", "The bucket", "The decoder", "Exceptions");
    private static final Map<String, List<String>> SECTIONS = read();

    private Doc() {
    }

    static Map<String, List<String>> sections() {
        return SECTIONS;
    }

    static boolean has(String section, String words) {
        for (String sentence : SECTIONS.getOrDefault(section, List.of())) {
            if (sentence.contains(words)) {
                return true;
            }
        }
        return false;
    }

    private static Map<String, List<String>> read() {
        Map<String, List<String>> sections = new LinkedHashMap<>();
        String section = "";
        try {
            for (String line : Files.readAllLines(Path.of("../shared/DOC.md"))) {
                if (line.startsWith("## ")) {
                    section = line.substring(3).replaceAll("^(Promise \\d+):.*", "$1");
                } else if (section.startsWith("Promise ")) {
                    // the signature ahead of the first sentence, and the name ahead of what an argument is
                    put(sections, section, line.replaceAll("^(- )?`[^`]*`: ", ""));
                } else if (section.equals("Terms")) {
                    putParagraph(sections, line);
                } else if (section.equals("What it is")) {
                    put(sections, section, line);
                }
            }
        } catch (IOException e) {
            throw new IllegalStateException("../shared/DOC.md can't be read", e);
        }
        return sections;
    }

    private static void putParagraph(Map<String, List<String>> sections, String line) {
        String name = "Terms";
        String text = line;
        for (String one : NAMES) {
            if (line.startsWith(one + ". ")) {
                name = one;
                text = line.substring(one.length() + 2);
            }
        }
        for (String sentence : text.split("(?<=\\.) ")) {
            put(sections, name, sentence);
        }
    }

    private static void put(Map<String, List<String>> sections, String section, String sentence) {
        if (!sentence.isBlank()) {
            sections.computeIfAbsent(section, name -> new ArrayList<>()).add(sentence);
        }
    }
}
