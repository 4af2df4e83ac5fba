import java.io.IOException;
import java.io.UncheckedIOException;
import java.nio.charset.StandardCharsets;
import java.nio.file.Files;
import java.nio.file.Path;
import java.util.ArrayList;
import java.util.LinkedHashMap;
import java.util.List;
import java.util.Map;

/** The sections of DOC.md, and which of their words tests have quoted. */
final class Document {
    /** The title and the sections of which no call can break a sentence, or that FaceTests compares as a whole. */
    private static final List<String> UNTOLD = List.of("", "The public face", "Not promised");

    private final Map<String, String> sections = new LinkedHashMap<>();
    private final Map<String, List<String>> quotes = new LinkedHashMap<>();

    Document() {
        String title = "";
        for (String line : read().split("\n")) {
            if (line.startsWith("## ")) {
                title = line.substring(3).replaceAll(":.*", "").trim();
            }
            sections.merge(title, line.trim() + "\n", String::concat);
        }
    }

    private static String read() {
        try {
            return Files.readString(Path.of("../shared/DOC.md"), StandardCharsets.UTF_8).replace("`", "");
        } catch (IOException missing) {
            throw new UncheckedIOException(missing);
        }
    }

    /** Whether the words stand in that section; they count as quoted then. */
    boolean says(String section, String words) {
        quotes.computeIfAbsent(section, none -> new ArrayList<>()).add(words);
        return sections.getOrDefault(section, "").contains(words);
    }

    /** The lines of that section, its heading first. */
    String section(String title) {
        return sections.getOrDefault(title, "");
    }

    /** The sentences that no words quoted are of, but those of the face and of what is free. */
    List<String> unquoted() {
        List<String> left = new ArrayList<>();
        for (Map.Entry<String, String> section : sections.entrySet()) {
            if (!UNTOLD.contains(section.getKey())) {
                for (String sentence : sentences(section.getKey())) {
                    if (!isQuoted(section.getKey(), sentence)) {
                        left.add(section.getKey() + ": " + sentence);
                    }
                }
            }
        }
        return left;
    }

    /** How many sections begin with these words. */
    int count(String begin) {
        int count = 0;
        for (String title : sections.keySet()) {
            count += title.startsWith(begin) ? 1 : 0;
        }
        return count;
    }

    /** Those of that section without the headings, the paragraphs' titles, the signatures and what is of the face. */
    List<String> sentences(String title) {
        List<String> sentences = new ArrayList<>();
        for (String line : section(title).split("\n")) {
            if (!line.startsWith("## ") && !line.startsWith("Ahead of")) {
                String words = line.replaceFirst("^(- |(int|double|long) [^:]*: |BarForger\\(\\): )", "")
                        .replaceFirst("^(Bar|Warmth|Blows on a part|Sections|Steps|Text|Undo|Exceptions)\\. ", "");
                for (String sentence : words.split("(?<=\\.\\)?) |; ")) {
                    if (!sentence.isBlank()) {
                        sentences.add(sentence);
                    }
                }
            }
        }
        return sentences;
    }

    private boolean isQuoted(String section, String sentence) {
        String words = sentence.replaceAll("[.;]$", "");
        for (String quote : quotes.getOrDefault(section, List.of())) {
            if (words.contains(quote.replaceAll("[.;]$", "")) || quote.contains(words)) {
                return true;
            }
        }
        return false;
    }
}
