import java.util.ArrayList;
import java.util.List;

/** The document as a whole: its sections, and those that are neither the face, the terms nor a promise. */
public final class DocumentTest {
    /** Made.full() makes so many calls. */
    private static final int CALLS_OF_FULL = 115;

    public static void main(String[] args) {
        allSectionsAreKnown();
        usedFor512Calls();
        usedFor512CallsOfEachKind();
        notPromised();
        Check.end();
    }

    private static void allSectionsAreKnown() {
        List<String> known = new ArrayList<>(List.of("Dimfacts", "What it is", "The public face", "Terms"));
        for (int promise = 1; promise <= 18; promise++) {
            known.add("Promise " + promise);
        }
        known.add("Not promised");
        Check.due(known, "the sections of the document", () -> Doc.sections(known));
        Doc.allOf("Dimfacts");
    }

    private static void usedFor512Calls() {
        Doc.says("What it is", "An object is used for at most 512 calls after it has been made; what later calls answer is free");
        Dimfacts x = Made.full();
        for (int i = 0; i < 512 - CALLS_OF_FULL - 3; i++) {
            Check.answerOf(() -> x.tell(0, 0, 0, 5, 0));
        }
        Check.due(Check.STATE, "the call 510", () -> x.tell(0, 0, 0, 5, 0));
        Check.due(11000 + 70, "the call 511", () -> x.value(11, 8, 3, 7));
        Check.due(-1, "the call 512", () -> x.unhang(0));
        Doc.allOf("What it is", "Dimfacts, a checker of filed accounts: concepts that hang under others with weights, "
            + "facts by concept, period and member with decimals, facts that are said twice, filings that restate earlier ones, "
            + "sums that are off, members that do not make their whole, and stocks that do not roll forward");
    }

    /** Whatever is called again and again, the last of 512 calls answers as the first. */
    private static void usedFor512CallsOfEachKind() {
        dueAgain("addConcept", Check.STATE, Dimfacts::addConcept);
        dueAgain("hang", 10, x -> x.hang(11, 10, false));
        dueAgain("hang, refused", Check.ARGUMENT, x -> x.hang(0, 11, true));
        dueAgain("unhang", -1, x -> x.unhang(0));
        dueAgain("addRoll", Check.STATE, x -> x.addRoll(0, 1));
        dueAgain("file", Check.STATE, Dimfacts::file);
        dueAgain("tell", Check.STATE, x -> x.tell(0, 0, 0, 5, 0));
        dueAgain("disagreements", 0, x -> x.disagreements(7));
        dueAgain("restated", 10, x -> x.restated(7));
        dueAgain("value", 11070, x -> x.value(11, 8, 3, 7));
        dueAgain("doubt", 10, x -> x.doubt(11, 8, 3, 7));
        dueAgain("sum", 11070, x -> x.sum(10, 8, 3, 7));
        dueAgain("derived", 10070, x -> x.derived(10, 8, 3, 7));
        dueAgain("derived, refused", Check.MISSING, x -> x.derived(5, 0, 0, 7));
        dueAgain("isSumOff", true, x -> x.isSumOff(10, 8, 3, 7));
        dueAgain("areMembersOff", true, x -> x.areMembersOff(11, 9, 7));
        dueAgain("isRollOff", true, x -> x.isRollOff(4, 9, 3, 7));
        dueAgain("faults", Made.full().faults(7), x -> x.faults(7));
        dueAgain("faultsByList", Made.full().faults(7), x -> x.faultsByList(7));
    }

    private static void dueAgain(String name, Object want, Refused.On call) {
        Dimfacts x = Made.full();
        for (int i = CALLS_OF_FULL + 1; i <= 512; i++) {
            Check.due(want, name + ", the call " + i, () -> call.call(x));
        }
    }

    private static void notPromised() {
        Doc.allOf("Not promised",
            "How the state is held inside the object is free, as are the speed of each call, the text of toString "
                + "and the behaviour of equals and hashCode",
            "Use of one object from several threads at once is not promised to be safe",
            "Nothing is promised beyond the answers and state changes described above, and nothing about an object after its 512th call");
    }
}
