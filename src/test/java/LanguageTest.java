import java.lang.reflect.Array;
import java.lang.reflect.Field;
import java.lang.reflect.Method;
import java.lang.reflect.Modifier;
import java.util.ArrayList;
import java.util.HashSet;
import java.util.IdentityHashMap;
import java.util.List;
import java.util.Map;
import java.util.Set;
import java.util.TreeSet;
import java.util.regex.Matcher;
import java.util.regex.Pattern;

/** The rules of LANGUAGE.md that can be seen from the class's text, its members, and what a full object holds. */
public final class LanguageTest {
    private static final String CODE = Source.code();
    private static final List<Class<?>> CLASSES = classes();
    private static final Set<String> LIBRARY = Set.of("String", "StringBuilder", "Integer", "Long", "Math", "ArrayList", "List",
        "Iterator", "Iterable", "Comparable", "System", "Arrays");
    private static final Set<String> EXCEPTIONS = Set.of("IllegalStateException", "IllegalArgumentException",
        "IndexOutOfBoundsException", "ArithmeticException", "UnsupportedOperationException", "NoSuchElementException", "RuntimeException");

    public static void main(String[] args) {
        rule1Names();
        rule2Classes();
        rules2To4Text();
        rule4Library();
        rule5StaticFields();
        rule6Exceptions();
        rule11Sizes();
        rule12Room();
        Check.end();
    }

    private static List<Class<?>> classes() {
        List<Class<?>> all = new ArrayList<>(List.of(Dimfacts.class));
        for (Class<?> inside : Dimfacts.class.getDeclaredClasses()) {
            all.add(inside);
        }
        return all;
    }

    private static void rule1Names() {
        Check.about("rule 1");
        TreeSet<String> faces = new TreeSet<>();
        for (Method m : Dimfacts.class.getMethods()) {
            faces.add(m.getName());
        }
        for (Class<?> one : CLASSES) {
            for (Method m : one.getDeclaredMethods()) {
                boolean isFace = Modifier.isPublic(m.getModifiers());
                Check.due(isFace, one + "." + m.getName() + " bears a name of the face", () -> faces.contains(m.getName()));
            }
        }
    }

    private static void rule2Classes() {
        Check.about("rules 1 and 2");
        for (Class<?> one : CLASSES.subList(1, CLASSES.size())) {
            int modifiers = one.getModifiers();
            Check.due(true, one + " is private or package-visible, and static",
                () -> Modifier.isStatic(modifiers) && !Modifier.isPublic(modifiers) && !Modifier.isProtected(modifiers));
        }
    }

    private static void rules2To4Text() {
        Check.about("rules 2 to 10");
        for (String word : new String[] {"->", "::", "@", "\"\" +", "+ \"\""}) {
            Check.due(false, word + " stands in it", () -> CODE.contains(word));
        }
        String[] words = {"package", "import", "catch", "finally", "assert", "synchronized", "equals", "hashCode", "toString",
            "native", "volatile", "transient", "strictfp", "var", "yield", "sealed"};
        for (String word : words) {
            Check.due(false, word + " stands in it", () -> Pattern.compile("\\b" + word + "\\b").matcher(CODE).find());
        }
        Check.due(true, "signs 1 to 127 alone", () -> Source.text(Source.CLASS).chars().allMatch(c -> c > 0 && c < 128));
    }

    private static void rule4Library() {
        Check.about("rule 4");
        Set<String> known = new HashSet<>(LIBRARY);
        known.addAll(EXCEPTIONS);
        for (Class<?> one : CLASSES) {
            known.add(one.getSimpleName());
        }
        Matcher m = Pattern.compile("\\b[A-Z]\\w*[a-z]\\w*\\b").matcher(CODE);
        while (m.find()) {
            String name = m.group();
            Check.due(true, name + " is known", () -> known.contains(name));
        }
        Matcher packages = Pattern.compile("\\bjavax?(\\.\\w+)+").matcher(CODE);
        while (packages.find()) {
            String name = packages.group();
            Check.due("java.util.NoSuchElementException", "what it takes from packages", () -> name);
        }
    }

    private static void rule5StaticFields() {
        Check.about("rule 5");
        for (Class<?> one : CLASSES) {
            for (Field f : one.getDeclaredFields()) {
                Check.due(true, one + "." + f.getName() + " is final if it is static",
                    () -> !Modifier.isStatic(f.getModifiers()) || Modifier.isFinal(f.getModifiers()));
            }
        }
        Check.due(false, "a static block", () -> Pattern.compile("\\bstatic\\s*\\{").matcher(CODE).find());
    }

    private static void rule6Exceptions() {
        Check.about("rule 6");
        Matcher m = Pattern.compile("\\bthrow\\b([^;]*);").matcher(CODE);
        while (m.find()) {
            String thrown = m.group(1).trim();
            Check.due(true, "throw " + thrown, () -> thrown.startsWith("new ") && thrown.matches(".*\\((\"\")?\\)")
                && EXCEPTIONS.contains(thrown.replaceFirst("^new ", "").replaceFirst("^java\\.util\\.", "").replaceFirst("\\(.*", "")));
        }
    }

    private static void rule11Sizes() {
        Check.about("rule 11");
        Check.due(true, "at most 12 classes", () -> CLASSES.size() <= 12);
        for (Class<?> one : CLASSES) {
            int fields = 0;
            for (Field f : one.getDeclaredFields()) {
                fields += Modifier.isStatic(f.getModifiers()) ? 0 : 1;
            }
            int count = fields;
            Check.due(true, one + " has at most 20 fields", () -> count <= 20);
            for (Method m : one.getDeclaredMethods()) {
                Check.due(true, m.getName() + " takes at most 7", () -> m.getParameterCount() <= 7);
            }
        }
        Check.due(true, "no method over 60 lines", () -> longestMethod() <= 60);
    }

    private static int longestMethod() {
        int longest = 0;
        Matcher m = Pattern.compile("(?m)^( +)[^\\s].*\\) ?(throws [\\w., ]+)?\\{\n(?s:.*?)^\\1}").matcher(CODE);
        while (m.find()) {
            longest = Math.max(longest, m.group().split("\n").length);
        }
        return longest;
    }

    /** All calls of a run live in one room: an object is small, and only a fact that is told makes it grow. */
    private static void rule12Room() {
        Check.about("rule 12");
        int[] empty = room(Made.empty());
        int[] full = room(Made.full());
        Check.due(true, empty[0] + " objects and " + empty[1] + " elements of an empty one", () -> empty[0] <= 12 && empty[1] <= 700);
        Check.due(80, "objects more for 80 facts", () -> full[0] - empty[0]);
        Dimfacts x = Made.full();
        Refused.askAll(x);
        Check.due(full[0] + ", " + full[1], "the room after all questions", () -> room(x)[0] + ", " + room(x)[1]);
    }

    private static int[] room(Dimfacts x) {
        Map<Object, Object> seen = new IdentityHashMap<>();
        int[] room = new int[2];
        walk(x, seen, room);
        return room;
    }

    private static void walk(Object at, Map<Object, Object> seen, int[] room) {
        if (at == null || seen.put(at, at) != null) {
            return;
        }
        room[0]++;
        if (at.getClass().isArray()) {
            room[1] += Array.getLength(at);
            for (int i = 0; at instanceof Object[] && i < Array.getLength(at); i++) {
                walk(Array.get(at, i), seen, room);
            }
            return;
        }
        for (Field f : at.getClass().getDeclaredFields()) {
            if (!Modifier.isStatic(f.getModifiers())) {
                room[1]++;
                walkField(at, f, seen, room);
            }
        }
    }

    private static void walkField(Object at, Field f, Map<Object, Object> seen, int[] room) {
        if (f.getType().isPrimitive()) {
            return;
        }
        try {
            f.setAccessible(true);
            walk(f.get(at), seen, room);
        } catch (IllegalAccessException e) {
            throw new IllegalStateException(e);
        }
    }
}
