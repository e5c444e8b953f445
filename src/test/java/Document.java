import java.io.IOException;
import java.nio.file.Files;
import java.nio.file.Path;
import java.util.ArrayList;
import java.util.LinkedHashMap;
import java.util.LinkedHashSet;
import java.util.List;
import java.util.Map;
import java.util.Set;

/** The sentences of ../shared/DOC.md by section, and which of them have a test. */
final class Document {
    private static final Path FILE = Path.of("../shared/DOC.md");

    /** In the terms some paragraphs begin with a word or two that name them: no sentence that could be held. */
    private static final Set<String> PARAGRAPH_NAMES = Set.of("Terms.", "Regimes.", "A day passes so.", "The canteen.");

    private final Map<String, List<String>> sections = new LinkedHashMap<>();
    private final Set<String> held = new LinkedHashSet<>();

    Document() throws IOException {
        List<String> sentences = new ArrayList<>();
        for (String line : Files.readAllLines(FILE)) {
            if (line.startsWith("## ")) {
                sentences = new ArrayList<>();
                sections.put(line.substring(3).replaceFirst(":.*", ""), sentences);
            } else if (!line.isBlank()) {
                addSentences(line, sentences);
            }
        }
    }

    private static void addSentences(String line, List<String> sentences) {
        String text = line.replaceFirst("^- ", "").replaceFirst("^`[^`]*\\)[^`]*`: ", "");
        for (String sentence : text.split("(?<=\\.) (?=[A-Z])")) {
            if (!PARAGRAPH_NAMES.contains(sentence)) {
                sentences.add(sentence);
            }
        }
    }

    /** Whether a sentence of the section has these words. */
    boolean says(String section, String words) {
        return sentences(section).stream().anyMatch(sentence -> sentence.contains(words));
    }

    /** A test holds the sentences of the section that have these words. */
    void hold(String section, String words) {
        for (String sentence : sentences(section)) {
            if (sentence.contains(words)) {
                held.add(section + ": " + sentence);
            }
        }
    }

    private List<String> sentences(String section) {
        return sections.getOrDefault(section, List.of());
    }

    /** The sentences of these sections that no test holds. */
    List<String> notHeld(String sectionPattern) {
        List<String> missing = new ArrayList<>();
        sections.forEach((section, sentences) -> {
            for (String sentence : sentences) {
                String place = section + ": " + sentence;
                if (section.matches(sectionPattern) && !held.contains(place)) {
                    missing.add(place);
                }
            }
        });
        return missing;
    }
}
