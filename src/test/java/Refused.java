import java.util.ArrayList;
import java.util.List;

/** A call that throws changes nothing: its object goes on answering as one that it was not called on. */
final class Refused {
    private static final int[] CONCEPTS = {0, 1, 2, 3, 10, 11};
    private static final int[] PERIODS = {0, 1, 8, 9};
    private static final int[] FILINGS = {0, 1, 6, 7};
    private static final List<On> QUESTIONS = questions();
    /** What is asked of one object: with what makes it, below the calls that the document gives it. */
    private static final int CHUNK = 350;

    interface Maker {
        Dimfacts make();
    }

    interface On {
        Object call(Dimfacts x);
    }

    private Refused() {
    }

    /** The call throws what is due, and what it is called on is then as it was. */
    static void due(String want, String what, Maker maker, On refused) {
        Dimfacts first = maker.make();
        Check.due(want, what, () -> refused.call(first));
        Check.due(want, what + ", said again", () -> refused.call(first));
        for (int from = 0; from < QUESTIONS.size(); from += CHUNK) {
            List<On> chunk = QUESTIONS.subList(from, Math.min(from + CHUNK, QUESTIONS.size()));
            Check.due("nothing", what + " changed", () -> changed(maker, refused, chunk));
        }
        Check.due("nothing", what + " changed for later changes", () -> changed(maker, refused, changes()));
    }

    static void askAll(Dimfacts x) {
        for (On question : QUESTIONS) {
            Check.answerOf(() -> question.call(x));
        }
    }

    private static String changed(Maker maker, On refused, List<On> questions) {
        Dimfacts touched = maker.make();
        Check.answerOf(() -> refused.call(touched));
        Dimfacts plain = maker.make();
        for (int i = 0; i < questions.size(); i++) {
            On question = questions.get(i);
            String want = Check.answerOf(() -> question.call(plain));
            String got = Check.answerOf(() -> question.call(touched));
            if (!got.equals(want)) {
                return "question " + i + " from " + want + " to " + got;
            }
        }
        return "nothing";
    }

    private static List<On> questions() {
        List<On> list = new ArrayList<>();
        for (int f : FILINGS) {
            list.add(x -> x.disagreements(f));
            list.add(x -> x.restated(f));
            list.add(x -> x.faults(f));
            list.add(x -> x.faultsByList(f));
            for (int p : PERIODS) {
                for (int c : CONCEPTS) {
                    list.add(x -> x.areMembersOff(c, p, f));
                }
                for (int m = 0; m < 4; m++) {
                    addQuestions(list, p, m, f);
                }
            }
        }
        return list;
    }

    private static void addQuestions(List<On> list, int p, int m, int f) {
        for (int c : CONCEPTS) {
            list.add(x -> x.value(c, p, m, f));
            list.add(x -> x.doubt(c, p, m, f));
            list.add(x -> x.sum(c, p, m, f));
            list.add(x -> x.derived(c, p, m, f));
            list.add(x -> x.isSumOff(c, p, m, f));
        }
        for (int r = 0; r < 5; r++) {
            int rule = r;
            list.add(x -> x.isRollOff(rule, p, m, f));
        }
    }

    /** What only a change tells: how many there are of each, and what hangs under what. */
    private static List<On> changes() {
        List<On> list = new ArrayList<>();
        list.add(x -> x.tell(0, 0, 0, 5, 0));
        list.add(x -> x.value(0, 0, 0, 0));
        list.add(x -> x.value(0, 0, 0, 7));
        list.add(x -> x.file());
        list.add(x -> x.addRoll(0, 1));
        for (int i = 0; i < 12; i++) {
            int concept = i;
            list.add(x -> x.hang(concept, (concept + 11) % 12, false));
        }
        for (int i = 0; i < 12; i++) {
            int concept = i;
            list.add(x -> x.unhang(concept));
        }
        list.add(x -> x.addConcept());
        list.add(x -> x.tell(0, 9, 3, 5, 4));
        return list;
    }
}
