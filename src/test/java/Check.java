import java.util.NoSuchElementException;

/** Compares what calls answer with what is due, and tells at the end whether all was as due. */
final class Check {
    static final String BOUNDS = "throws.IndexOutOfBoundsException";
    static final String ARGUMENT = "throws.IllegalArgumentException";
    static final String STATE = "throws.IllegalStateException";
    static final String MISSING = "throws.NoSuchElementException";

    private static int calls = 0;
    private static int wrong = 0;
    private static String topic = "";

    interface Call {
        Object answer();
    }

    private Check() {
    }

    /** What the calls that follow are about; told with those that go wrong. */
    static void about(String text) {
        topic = text + ": ";
    }

    static void due(Object want, String what, Call call) {
        String got = answerOf(call);
        calls++;
        if (!got.equals(String.valueOf(want))) {
            wrong++;
            System.out.println(topic + what + " answered " + got + ", due is " + want);
        }
    }

    /** The answer as a text, or the name of the exception that the call throws, in its exact class. */
    static String answerOf(Call call) {
        try {
            return String.valueOf(call.answer());
        } catch (IndexOutOfBoundsException | IllegalArgumentException | IllegalStateException | NoSuchElementException e) {
            return "throws." + e.getClass().getSimpleName();
        }
    }

    static void end() {
        System.out.println(calls + " calls, " + wrong + " wrong");
        if (wrong != 0) {
            System.exit(1);
        }
    }
}
