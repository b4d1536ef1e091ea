import java.lang.reflect.Constructor;
import java.lang.reflect.Field;
import java.lang.reflect.Method;
import java.lang.reflect.Modifier;
import java.util.Arrays;
import java.util.List;
import java.util.TreeSet;

/** The public face: what the document gives, and no member beside it that others can see. */
public final class FaceTest {
    private static final String NO_ELEMENT = "NoSuchElementException";
    private static final String BOUNDS = "IndexOutOfBoundsException";
    private static final String ARGUMENT = "IllegalArgumentException";
    private static final String STATE = "IllegalStateException";

    public static void main(String[] args) {
        Class<?> face = Dimfacts.class;
        Check.due("public final", "the class", () -> Modifier.toString(face.getModifiers()));
        Check.due(due(), "the methods", () -> methods(face));
        Check.due("[public static final int NONE]", "the constants", () -> constants(face));
        Check.due("[public Dimfacts()]", "the constructors", () -> constructors(face));
        linesOfTheDocument();
        Check.end();
    }

    /** The class declares what the document writes, to the letter: the names of arguments and the order too. */
    private static void linesOfTheDocument() {
        List<String> lines = Source.publicLines();
        Check.due(Doc.face(lines), "the lines of the public face", () -> lines);
        List<String> promised = lines.subList(Math.min(2, lines.size()), lines.size());
        Check.due(Doc.signatures(promised), "what the promises declare", () -> promised);
        Check.due("public static final int NONE = -1;", "the constant", () -> lines.get(1));
    }

    private static String due() {
        TreeSet<String> lines = new TreeSet<>();
        lines.add(line("int", "addConcept", "", STATE));
        lines.add(line("int", "hang", "int int boolean", BOUNDS, ARGUMENT));
        lines.add(line("int", "unhang", "int", BOUNDS));
        lines.add(line("int", "addRoll", "int int", BOUNDS, ARGUMENT, STATE));
        lines.add(line("int", "file", "", STATE));
        lines.add(line("int", "tell", "int int int int int", BOUNDS, ARGUMENT, STATE));
        lines.add(line("int", "disagreements", "int", BOUNDS));
        lines.add(line("int", "restated", "int", BOUNDS));
        lines.add(line("int", "value", "int int int int", BOUNDS, NO_ELEMENT));
        lines.add(line("int", "doubt", "int int int int", BOUNDS, NO_ELEMENT));
        lines.add(line("int", "sum", "int int int int", BOUNDS));
        lines.add(line("int", "derived", "int int int int", BOUNDS, NO_ELEMENT));
        lines.add(line("boolean", "isSumOff", "int int int int", BOUNDS));
        lines.add(line("boolean", "areMembersOff", "int int int", BOUNDS));
        lines.add(line("boolean", "isRollOff", "int int int int", BOUNDS));
        lines.add(line("int", "faults", "int", BOUNDS));
        lines.add(line("int", "faultsByList", "int", BOUNDS));
        return lines.toString();
    }

    private static String line(String returns, String name, String takes, String... thrown) {
        return "public " + returns + " " + name + "(" + takes + ") throws " + Arrays.toString(thrown);
    }

    private static String methods(Class<?> face) {
        TreeSet<String> lines = new TreeSet<>();
        for (Method m : face.getDeclaredMethods()) {
            if (!Modifier.isPrivate(m.getModifiers())) {
                lines.add(Modifier.toString(m.getModifiers()) + " " + m.getReturnType() + " " + m.getName()
                    + "(" + names(m.getParameterTypes(), " ") + ") throws [" + names(m.getExceptionTypes(), ", ") + "]");
            }
        }
        return lines.toString();
    }

    private static String constants(Class<?> face) {
        TreeSet<String> lines = new TreeSet<>();
        for (Field f : face.getDeclaredFields()) {
            if (!Modifier.isPrivate(f.getModifiers())) {
                lines.add(Modifier.toString(f.getModifiers()) + " " + f.getType() + " " + f.getName());
            }
        }
        return lines.toString();
    }

    private static String constructors(Class<?> face) {
        TreeSet<String> lines = new TreeSet<>();
        for (Constructor<?> c : face.getDeclaredConstructors()) {
            lines.add(Modifier.toString(c.getModifiers()) + " " + face.getSimpleName() + "(" + names(c.getParameterTypes(), " ") + ")");
        }
        return lines.toString();
    }

    private static String names(Class<?>[] types, String between) {
        StringBuilder text = new StringBuilder();
        for (Class<?> type : types) {
            text.append(text.length() == 0 ? "" : between).append(type.getSimpleName());
        }
        return text.toString();
    }
}
