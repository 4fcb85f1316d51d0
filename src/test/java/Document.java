import java.io.IOException;
import java.io.UncheckedIOException;
import java.nio.file.Files;
import java.nio.file.Path;
import java.util.ArrayList;
import java.util.HashSet;
import java.util.LinkedHashMap;
import java.util.List;
import java.util.Map;
import java.util.Set;

/** The sentences of the document by their sections, and which of them the tests quote. */
final class Document {
    private static final Path PLACE = Path.of("../shared/DOC.md");

    /** Sentences that promise nothing of their own; others say what they announce. */
    private static final Set<String> ANNOUNCEMENTS = Set.of(
            "A census of echoes in the rows of a theatre, with seat limits, heirs, locks, and counting by a"
                    + " Fenwick tree.",
            "An echo is a record with an id and a loudness.",
            "The class counts echoes in ranges of rows, finds echoes by rank, and passes the loudness of a"
                    + " removed echo on to its heir.",
            "The class is not thread-safe.",
            "When an echo is removed, the following happens.",
            "A program in the input buffer has this grammar, where { x } means zero or more repetitions of x"
                    + " and [ x ] means that x is optional:");

    private final Map<String, List<String>> sections = new LinkedHashMap<>();
    private final Set<String> quoted = new HashSet<>();

    Document() {
        for (String part : read().split("(?m)^## ")) {
            String title = part.lines().findFirst().orElse("").split(":")[0];
            if (title.equals("What it is") || title.equals("Terms") || title.startsWith("Promise ")) {
                readSection(title, part.substring(part.indexOf('\n') + 1));
            }
        }
    }

    private static String read() {
        try {
            return Files.readString(PLACE);
        } catch (IOException e) {
            throw new UncheckedIOException(e);
        }
    }

    /** Files the sentences under the title, or under the word that stands before them like "Rows.". */
    private void readSection(String title, String text) {
        String section = title;
        for (String paragraph : text.split("\\n\\n|\\n(?=- )")) {
            for (String sentence : paragraph.strip().replaceAll("\\s+", " ").split("(?<=\\.) (?=[A-Z])")) {
                if (sentence.matches("[A-Z][a-z]+\\.")) {
                    section = sentence.substring(0, sentence.length() - 1);
                } else if (!sentence.isEmpty()) {
                    sections.computeIfAbsent(section, key -> new ArrayList<>()).add(sentence);
                }
            }
        }
    }

    /** Marks the one sentence of the section that has these words; answers whether there is just one. */
    boolean quote(String section, String words) {
        List<String> found = sections.getOrDefault(section, List.of()).stream()
                .filter(sentence -> sentence.contains(words)).toList();
        found.forEach(sentence -> quoted.add(section + ": " + sentence));
        return found.size() == 1;
    }

    /** The sentences that a test should quote and none does. */
    List<String> unquoted() {
        List<String> missing = new ArrayList<>();
        sections.forEach((section, sentences) -> {
            boolean asks = sentences.get(0).contains("`: Returns ");
            for (String sentence : sentences) {
                String name = section + ": " + sentence;
                if (!quoted.contains(name) && needsTest(sentence, asks)) {
                    missing.add(name);
                }
            }
        });
        return missing;
    }

    private static boolean needsTest(String sentence, boolean ofQuestion) {
        boolean namesCase = sentence.matches(".*([0-9]|\\bany\\b|latest).*");
        if (sentence.startsWith("- `") || ofQuestion && sentence.startsWith("Returns ")) {
            // Parameters and answers that only repeat what the first sentence says.
            return namesCase;
        }
        return !ANNOUNCEMENTS.contains(sentence);
    }
}
