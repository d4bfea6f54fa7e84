import java.io.IOException;
import java.nio.charset.StandardCharsets;
import java.nio.file.Files;
import java.nio.file.Path;
import java.util.LinkedHashMap;
import java.util.LinkedHashSet;
import java.util.List;
import java.util.Map;
import java.util.Set;

/** What ../shared/DOC.md says: its sentences, by the heading that they stand under, and its groups of calls. */
final class Document {
    private static final Path FILE = Path.of("..", "shared", "DOC.md");

    /** Words ahead of a paragraph, and what tells nothing about an answer. */
    private static final Set<String> SILENT = Set.of("A library for permutation flow shops.", "Jobs and machines.",
        "Variants.", "Comparing orders.");
    private static final String COMMENT_OF_THE_FACE = "Ahead of the calls ";
    private static final String END_OF_THE_CALLS = " the interface says: ---- ";

    private Document() {
    }

    static Map<String, Set<String>> sentences() {
        Map<String, Set<String>> sentences = new LinkedHashMap<>();
        Set<String> under = new LinkedHashSet<>();
        for (String line : lines()) {
            if (line.startsWith("## ")) {
                under = new LinkedHashSet<>();
                if (tellsAnswers(line.substring(3))) {
                    sentences.put(line.substring(3), under);
                }
            } else {
                addSentences(line, under);
            }
        }
        return sentences;
    }

    /** The names of the calls, by what the interface says ahead of them. */
    static Map<String, List<String>> groups() {
        Map<String, List<String>> groups = new LinkedHashMap<>();
        for (String line : lines()) {
            if (line.startsWith(COMMENT_OF_THE_FACE)) {
                int end = line.indexOf(END_OF_THE_CALLS);
                String calls = line.substring(COMMENT_OF_THE_FACE.length(), end).replace("`", "");
                String title = line.substring(end + END_OF_THE_CALLS.length()).replaceFirst("\\.$", "");
                groups.put(title, List.of(calls.split(", ")));
            }
        }
        return groups;
    }

    private static boolean tellsAnswers(String heading) {
        return heading.equals("What it is") || heading.equals("Terms") || heading.startsWith("Promise ");
    }

    private static void addSentences(String line, Set<String> under) {
        String text = line.replaceFirst("^- ", "").replaceFirst("^`[^`]*\\([^`]*`: ", "");
        for (String sentence : text.split("(?<=\\.) (?=[A-Z(])")) {
            if (!sentence.isEmpty() && !SILENT.contains(sentence) && !sentence.startsWith(COMMENT_OF_THE_FACE)) {
                under.add(sentence);
            }
        }
    }

    private static List<String> lines() {
        try {
            return Files.readAllLines(FILE, StandardCharsets.UTF_8);
        } catch (IOException e) {
            throw new IllegalStateException("the tests must be run beside " + FILE, e);
        }
    }
}
