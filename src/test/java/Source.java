import java.io.IOException;
import java.nio.charset.StandardCharsets;
import java.nio.file.Files;
import java.nio.file.Path;
import java.util.ArrayList;
import java.util.List;

/** The text of the class, and of what lies beside it, for what no call can answer. */
final class Source {
    static final Path CLASS = Path.of("src", "main", "java", "Dimfacts.java");

    private Source() {
    }

    static String text(Path file) {
        try {
            return Files.readString(file, StandardCharsets.UTF_8);
        } catch (IOException e) {
            throw new IllegalStateException("there is no reading " + file, e);
        }
    }

    static List<String> lines(Path file) {
        return List.of(text(file).split("\n", -1));
    }

    /** The class without its comments and without what stands in its texts. */
    static String code() {
        return text(CLASS).replaceAll("(?s)/\\*.*?\\*/", "").replaceAll("//[^\n]*", "").replaceAll("\"[^\"\n]*\"", "\"\"");
    }

    static List<String> publicLines() {
        return publicLines(lines(CLASS));
    }

    /** What is declared public, in its order, each as the document writes it. */
    static List<String> publicLines(List<String> lines) {
        List<String> found = new ArrayList<>();
        for (String line : lines) {
            if (line.trim().startsWith("public ")) {
                found.add(line.trim().replaceFirst(" \\{$", ";"));
            }
        }
        return found;
    }

    /** The names of the methods that are public and stand below a heading, up to the next one. */
    static List<String> publicBelow(String heading) {
        List<String> names = new ArrayList<>();
        boolean isBelow = false;
        for (String line : lines(CLASS)) {
            if (line.trim().startsWith("// ----")) {
                isBelow = line.trim().equals("// " + heading);
            } else if (isBelow && line.startsWith("    public ")) {
                names.add(line.replaceFirst("\\(.*", "").replaceFirst(".* ", ""));
            }
        }
        return names;
    }
}
