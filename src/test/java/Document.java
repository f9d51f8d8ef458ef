import java.io.IOException;
import java.nio.file.Files;
import java.nio.file.Path;
import java.util.ArrayList;
import java.util.LinkedHashMap;
import java.util.List;
import java.util.Map;

/** The lines and sentences of a page, as the document, by the headings under which they stand. */
final class Document {
    private static final String HEADING = "## ";

    private final Map<String, List<String>> lines = new LinkedHashMap<>();

    Document(Path file) throws IOException {
        List<String> section = new ArrayList<>();
        for (String line : Files.readAllLines(file)) {
            if (line.startsWith(HEADING)) {
                section = new ArrayList<>();
                lines.put(line.substring(HEADING.length()), section);
            } else {
                section.add(line);
            }
        }
    }

    /** The heading that begins with some words; the words themselves if there is none. */
    String heading(String beginning) {
        for (String heading : lines.keySet()) {
            if (heading.startsWith(beginning)) {
                return heading;
            }
        }
        return beginning;
    }

    List<String> headings() {
        return new ArrayList<>(lines.keySet());
    }

    List<String> lines(String heading) {
        return lines.getOrDefault(heading, List.of());
    }

    /** The lines of the first block of a language under a heading, such as one that begins with ```java. */
    List<String> block(String heading, String language) {
        List<String> block = new ArrayList<>();
        boolean inside = false;
        for (String line : lines(heading)) {
            if (inside && line.equals("```")) {
                return block;
            }
            if (inside) {
                block.add(line);
            }
            inside = inside || line.equals("```" + language);
        }
        return block;
    }

    boolean says(String heading, String words) {
        for (String line : lines(heading)) {
            if (line.contains(words)) {
                return true;
            }
        }
        return false;
    }

    /** The sentences under a heading, but for signatures, lists of parameters and examples. */
    List<String> sentences(String heading) {
        List<String> sentences = new ArrayList<>();
        for (String line : lines.get(heading)) {
            if (line.startsWith("`") || line.startsWith("-") || line.startsWith(" ") || line.startsWith("Examples:")) {
                continue;
            }
            for (String sentence : line.split("(?<=\\.) ")) {
                // a title of one word, as "Columns.", says nothing
                if (sentence.contains(" ")) {
                    sentences.add(sentence);
                }
            }
        }
        return sentences;
    }
}
