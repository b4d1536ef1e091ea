import java.io.IOException;
import java.nio.file.Files;
import java.nio.file.Path;
import java.util.ArrayList;
import java.util.List;
import java.util.TreeSet;
import java.util.regex.Matcher;
import java.util.regex.Pattern;
import java.util.stream.Stream;
import javax.tools.ToolProvider;

/** What README.md says: its example is compiled and run, its tables and names are held against what is there. */
public final class ReadmeTest {
    private static final Path README = Path.of("README.md");
    private static final Path RUN = Path.of(".ci", "run");
    private static final Path TESTS = Path.of("src", "test", "java");
    /** A call, or a declaration with one, and behind it the answer or the exception. */
    private static final Pattern ANSWERED =
        Pattern.compile("(?:int (\\w+) = )?(books\\..*);\\s*// (-?\\d+|true|false|throws \\w+)\\b.*");

    public static void main(String[] args) throws Exception {
        theExample();
        theCalls();
        theRanges();
        theTests();
        thePaths();
        Check.end();
    }

    private static void theExample() throws Exception {
        Check.about("README's example");
        List<String> lines = between("```java", "```");
        Path classes = Path.of(ReadmeTest.class.getProtectionDomain().getCodeSource().getLocation().toURI());
        Path file = classes.resolve("ReadmeExample.java");
        Files.writeString(file, exampleClass(lines));
        String path = classes.toString();
        int failed = ToolProvider.getSystemJavaCompiler().run(null, null, null, "-cp", path, "-d", path, file.toString());
        Check.due(0, "compiling it", () -> failed);
        if (failed == 0) {
            Class.forName("ReadmeExample").getDeclaredMethod("run").invoke(null);
        }
        for (String name : new TreeSet<>(namesOfCalls())) {
            String call = "books." + name + "(";
            Check.due(true, "it has " + name, () -> lines.stream().anyMatch(line -> line.contains(call)));
        }
    }

    private static String exampleClass(List<String> lines) {
        StringBuilder code = new StringBuilder("final class ReadmeExample {\n    static void run() {\n");
        for (String line : lines) {
            Matcher m = ANSWERED.matcher(line);
            if (!m.matches()) {
                code.append(line).append('\n');
                continue;
            }
            boolean isDeclared = m.group(1) != null;
            code.append(isDeclared ? "int " + m.group(1) + " = " + m.group(2) + ";\n" : "");
            code.append("Check.due(\"").append(m.group(3).replace("throws ", "throws.")).append("\", \"").append(m.group(2))
                .append("\", () -> ").append(isDeclared ? m.group(1) : m.group(2)).append(");\n");
        }
        return code.append("    }\n}\n").toString();
    }

    private static void theCalls() {
        Check.about("README's table of calls");
        List<String> due = new ArrayList<>();
        for (String line : methods()) {
            due.add(line.replaceFirst(" throws .*", "").replaceFirst("^public \\w+ ", "").replaceAll("(int|boolean) ", ""));
        }
        List<String> rows = new ArrayList<>();
        for (String line : between("| call | what it does or returns |", "")) {
            if (line.startsWith("| `")) {
                rows.add(line.substring(3, line.indexOf('`', 3)));
            }
        }
        Check.due(due, "its rows", () -> rows);
    }

    private static void theRanges() {
        Check.about("README's table of ranges");
        dueRange("concepts", Check.BOUNDS, n -> Made.concepts(12).unhang(n));
        dueRange("rules", Check.BOUNDS, n -> Made.rules(5).isRollOff(n, 9, 3, 0));
        dueRange("filings", Check.BOUNDS, n -> Made.filings(8).faults(n));
        dueRange("periods", Check.BOUNDS, n -> Made.concepts(1).sum(0, n, 0, 0));
        dueRange("members", Check.BOUNDS, n -> Made.concepts(1).sum(0, 0, n, 0));
        dueRange("values", Check.ARGUMENT, n -> Made.concepts(1).tell(0, 0, 0, n, 0));
        dueRange("decimals", Check.ARGUMENT, n -> Made.concepts(1).tell(0, 0, 0, 0, n));
        int[] facts = range("facts there are");
        Check.due(facts[0] + 1, "the first fact", () -> Made.concepts(1).tell(0, 0, 0, 0, 0));
        Check.due(facts[1], "the last fact", () -> Made.facts(facts[1] - 1).tell(0, 0, 0, 0, 0));
        Check.due(Check.STATE, "one more fact", () -> Made.facts(facts[1]).tell(0, 0, 0, 0, 0));
    }

    private interface Taking {
        Object of(int number);
    }

    private static void dueRange(String name, String refusal, Taking call) {
        int[] range = range(name);
        Check.due(true, "taking the first of " + name, () -> isTaken(range[0], call));
        Check.due(true, "taking the last of " + name, () -> isTaken(range[1], call));
        Check.due(refusal, "below " + name, () -> call.of(range[0] - 1));
        Check.due(refusal, "above " + name, () -> call.of(range[1] + 1));
    }

    private static boolean isTaken(int number, Taking call) {
        return !Check.answerOf(() -> call.of(number)).startsWith("throws");
    }

    private static int[] range(String name) {
        for (String line : between("| what | from | to |", "")) {
            String[] cells = line.split(" *\\| *");
            if (cells.length == 4 && cells[1].equals(name)) {
                return new int[] {Integer.parseInt(cells[2]), Integer.parseInt(cells[3])};
            }
        }
        throw new IllegalStateException("README has no range of " + name);
    }

    private static void theTests() throws IOException {
        Check.about("README's list of tests");
        TreeSet<String> there = new TreeSet<>();
        try (Stream<Path> files = Files.list(TESTS)) {
            files.forEach(file -> there.add(file.getFileName().toString().replace(".java", "")));
        }
        TreeSet<String> named = new TreeSet<>();
        for (String quoted : quoted(Pattern.compile("`([A-Z][A-Za-z]*)`"), "## How to run its tests")) {
            named.add(quoted);
        }
        Check.due(there, "the files it names", () -> named);
    }

    private static void thePaths() {
        Check.about("README's paths");
        for (String path : quoted(Pattern.compile("`((?:\\.ci|\\.\\.|src)/[^`]*)`"), "# Dimfacts")) {
            boolean isMany = path.contains("*");
            Check.due(true, path, () -> isMany ? Source.text(RUN).contains(path) : Files.exists(Path.of(path)));
        }
        Check.due(true, ".ci/run can be run", () -> Files.isExecutable(RUN));
        Check.due(true, ".ci/run runs the tests of ../shared/tests", () -> Source.text(RUN).contains("../shared/tests/*.java"));
        Check.due(true, ".ci/run compiles to build/", () -> Source.text(RUN).contains("\nbuild=build\n"));
        Check.due(true, ".ci/run counts", () -> Source.text(RUN).contains("echo \"$passed passed, $failed failed\""));
    }

    private static List<String> methods() {
        List<String> lines = new ArrayList<>(Source.publicLines());
        lines.removeIf(line -> !line.matches("public (int|boolean) \\w+\\(.*"));
        return lines;
    }

    private static List<String> namesOfCalls() {
        List<String> names = new ArrayList<>();
        for (String line : methods()) {
            names.add(line.replaceFirst("\\(.*", "").replaceFirst(".* ", ""));
        }
        return names;
    }

    private static List<String> between(String first, String last) {
        List<String> lines = Source.lines(README);
        int from = lines.indexOf(first) + 1;
        if (from == 0) {
            throw new IllegalStateException("README has no line " + first);
        }
        List<String> rest = lines.subList(from, lines.size());
        return rest.subList(0, rest.indexOf(last));
    }

    /** What stands in such quotes, from a heading on. */
    private static List<String> quoted(Pattern pattern, String heading) {
        String text = Source.text(README);
        Matcher m = pattern.matcher(text.substring(text.indexOf(heading)));
        List<String> found = new ArrayList<>();
        while (m.find()) {
            found.add(m.group(1));
        }
        return found;
    }
}
