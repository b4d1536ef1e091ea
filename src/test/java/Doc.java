import java.io.IOException;
import java.nio.charset.StandardCharsets;
import java.nio.file.Files;
import java.nio.file.Path;
import java.util.ArrayList;
import java.util.HashSet;
import java.util.LinkedHashMap;
import java.util.List;
import java.util.Map;
import java.util.Set;

/** The document's sentences: a test quotes the one that it stands for, and none may be left out. */
final class Doc {
    private static final Path FILE = Path.of("..", "shared", "DOC.md");
    /** Without the document beside the project the tests test the calls alone, as it cannot be asked. */
    private static final boolean IS_THERE = Files.exists(FILE);
    private static final Map<String, List<String>> SECTIONS = read();
    private static final Set<String> QUOTED = new HashSet<>();

    private Doc() {
    }

    /** The calls that follow test this sentence of the document. */
    static void says(String section, String sentence) {
        String quote = section + ": \"" + sentence + "\"";
        Check.about(quote);
        QUOTED.add(quote);
        Check.due(true, "the document says it", () -> !IS_THERE || sentencesOf(section).contains(sentence));
    }

    /** No sentence of the section is without a test, but for those that tell nothing of what a call does. */
    static void allOf(String section, String... tellNothing) {
        Check.about(section);
        List<String> left = new ArrayList<>(sentencesOf(section));
        left.removeIf(sentence -> QUOTED.contains(section + ": \"" + sentence + "\""));
        for (String sentence : tellNothing) {
            Check.due(true, "left out: " + sentence, () -> !IS_THERE || left.remove(sentence));
        }
        Check.due("[]", "sentences without a test", () -> left);
    }

    /** The names of the sections, from the first line to the last. */
    static List<String> sections(List<String> due) {
        return IS_THERE ? new ArrayList<>(SECTIONS.keySet()) : due;
    }

    /** The lines of the public face that declare something. */
    static List<String> face(List<String> due) {
        return IS_THERE ? Source.publicLines(lines()) : due;
    }

    /** The signatures that the promises begin with, as they would stand in the face. */
    static List<String> signatures(List<String> due) {
        List<String> found = new ArrayList<>();
        for (String line : lines()) {
            if (line.matches("`[^`]*\\([^`]*`: .*")) {
                found.add("public " + line.substring(1, line.indexOf('`', 1)) + ";");
            }
        }
        return IS_THERE ? found : due;
    }

    private static List<String> sentencesOf(String section) {
        return SECTIONS.getOrDefault(section, List.of());
    }

    private static Map<String, List<String>> read() {
        Map<String, List<String>> sections = new LinkedHashMap<>();
        List<String> sentences = new ArrayList<>();
        for (String line : lines()) {
            if (line.startsWith("#")) {
                sentences = new ArrayList<>();
                sections.put(line.replaceFirst("^#+ ", "").replaceFirst(":.*", ""), sentences);
            } else if (!line.isBlank()) {
                addSentences(sentences, line);
            }
        }
        return sections;
    }

    /** Without the mark of a list and the signature that a promise begins with. */
    private static void addSentences(List<String> sentences, String line) {
        String text = line.replaceFirst("^- ", "").replaceFirst("^`[^`]*\\([^`]*`: ", "");
        for (String sentence : text.split("(?<=\\.) ")) {
            sentences.add(sentence.replaceFirst("\\.$", ""));
        }
    }

    private static List<String> lines() {
        try {
            return IS_THERE ? Files.readAllLines(FILE, StandardCharsets.UTF_8) : List.of();
        } catch (IOException e) {
            throw new IllegalStateException("the document cannot be read at " + FILE, e);
        }
    }
}
