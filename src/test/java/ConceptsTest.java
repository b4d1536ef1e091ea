/** Promises 1 to 5: a new object, addConcept, hang, unhang, addRoll. */
public final class ConceptsTest {
    public static void main(String[] args) {
        newObject();
        objectsAreApart();
        addConcept();
        hang();
        hangRefusesCircles();
        hangWeights();
        hangRefusedChangesNothing();
        unhang();
        addRoll();
        addRollExceptions();
        Check.end();
    }

    static Dimfacts withConcepts(int count) {
        Dimfacts x = new Dimfacts();
        for (int i = 0; i < count; i++) {
            x.addConcept();
        }
        return x;
    }

    private static void newObject() {
        Dimfacts x = new Dimfacts();
        Check.due(-1, "NONE", () -> Dimfacts.NONE);
        Check.due(Check.BOUNDS, "unhang(0) of none", () -> x.unhang(0));
        Check.due(0, "faults(0)", () -> x.faults(0));
        Check.due(0, "faultsByList(0)", () -> x.faultsByList(0));
        Check.due(0, "disagreements(0)", () -> x.disagreements(0));
        Check.due(0, "restated(0)", () -> x.restated(0));
        Check.due(Check.BOUNDS, "faults(1)", () -> x.faults(1));
        Check.due(Check.BOUNDS, "isRollOff of no rule", () -> x.isRollOff(0, 1, 0, 0));
        Check.due(0, "first concept", x::addConcept);
        Check.due(Check.BOUNDS, "still no rule", () -> x.isRollOff(0, 1, 0, 0));
        Check.due(Check.MISSING, "no facts", () -> x.value(0, 0, 0, 0));
        Check.due(1, "first fact", () -> x.tell(0, 0, 0, 0, 0));
        Check.due(1, "first new filing", x::file);
    }

    private static void objectsAreApart() {
        Dimfacts one = withConcepts(2);
        one.hang(1, 0, false);
        one.tell(0, 0, 0, 5, 0);
        Dimfacts two = withConcepts(2);
        Check.due(Check.MISSING, "value in the other object", () -> two.value(0, 0, 0, 0));
        Check.due(-1, "unhang in the other object", () -> two.unhang(1));
        Check.due(0, "unhang in the first object", () -> one.unhang(1));
    }

    private static void addConcept() {
        Dimfacts x = new Dimfacts();
        for (int i = 0; i < 12; i++) {
            int want = i;
            Check.due(want, "addConcept", x::addConcept);
            Check.due(-1, "a new concept hangs under none", () -> x.unhang(want));
            Check.due(Check.BOUNDS, "the next is not there yet", () -> x.unhang(want + 1));
        }
        Check.due(Check.STATE, "the 13th concept", x::addConcept);
        Check.due(Check.STATE, "the 13th concept again", x::addConcept);
        Check.due(Check.BOUNDS, "no concept 12", () -> x.unhang(12));
        Check.due(1, "a fact of the last concept", () -> x.tell(11, 9, 3, 1, 0));
    }

    private static void hang() {
        Dimfacts x = withConcepts(4);
        Check.due(-1, "hang(1, 0)", () -> x.hang(1, 0, true));
        Check.due(0, "hang(1, 2)", () -> x.hang(1, 2, false));
        Check.due(2, "hang(1, 2) again", () -> x.hang(1, 2, true));
        Check.due(2, "hang(1, 3)", () -> x.hang(1, 3, true));
        Check.due(3, "unhang(1)", () -> x.unhang(1));
        Check.due(Check.BOUNDS, "hang(-1, 0)", () -> x.hang(-1, 0, true));
        Check.due(Check.BOUNDS, "hang(4, 0)", () -> x.hang(4, 0, true));
        Check.due(Check.BOUNDS, "hang(0, -1)", () -> x.hang(0, -1, true));
        Check.due(Check.BOUNDS, "hang(0, 4)", () -> x.hang(0, 4, true));
        Check.due(Check.BOUNDS, "hang(4, 4)", () -> x.hang(4, 4, true));
        Check.due(Check.BOUNDS, "hang(-1, -1)", () -> x.hang(-1, -1, true));
        Check.due(Check.BOUNDS, "hang(least, most)", () -> x.hang(Integer.MIN_VALUE, Integer.MAX_VALUE, true));
    }

    private static void hangRefusesCircles() {
        Dimfacts x = withConcepts(12);
        for (int i = 1; i < 12; i++) {
            x.hang(i, i - 1, true);
        }
        for (int i = 0; i < 12; i++) {
            int below = i;
            Check.due(Check.ARGUMENT, "hang(0, " + i + ")", () -> x.hang(0, below, true));
            Check.due(Check.ARGUMENT, "hang under itself", () -> x.hang(below, below, false));
        }
        Check.due(Check.ARGUMENT, "hang(5, 11)", () -> x.hang(5, 11, true));
        Check.due(10, "hang(11, 0)", () -> x.hang(11, 0, true));
        Check.due(4, "hang(5, 11), now in another branch", () -> x.hang(5, 11, true));
        Check.due(Check.ARGUMENT, "hang(11, 10)", () -> x.hang(11, 10, true));
        Check.due(0, "unhang(11)", () -> x.unhang(11));
        Check.due(-1, "hang(0, 10)", () -> x.hang(0, 10, true));
    }

    private static void hangWeights() {
        Dimfacts x = withConcepts(3);
        x.tell(1, 0, 0, 30, 0);
        x.tell(2, 0, 0, 7, 0);
        x.hang(1, 0, true);
        x.hang(2, 0, false);
        Check.due(23, "30 - 7", () -> x.sum(0, 0, 0, 0));
        x.hang(1, 0, false);
        x.hang(2, 0, true);
        Check.due(-23, "7 - 30", () -> x.sum(0, 0, 0, 0));
        x.unhang(1);
        x.hang(1, 0, true);
        Check.due(37, "30 + 7", () -> x.sum(0, 0, 0, 0));
    }

    private static void hangRefusedChangesNothing() {
        Dimfacts x = withConcepts(3);
        x.tell(1, 0, 0, 30, 0);
        x.hang(1, 0, false);
        x.hang(2, 1, true);
        Check.due(Check.ARGUMENT, "hang(1, 2)", () -> x.hang(1, 2, true));
        Check.due(Check.ARGUMENT, "hang(1, 1)", () -> x.hang(1, 1, true));
        Check.due(Check.BOUNDS, "hang(1, 3)", () -> x.hang(1, 3, true));
        Check.due(-30, "the sum as before", () -> x.sum(0, 0, 0, 0));
        Check.due(0, "the parent as before", () -> x.unhang(1));
    }

    private static void unhang() {
        Dimfacts x = withConcepts(3);
        x.hang(1, 0, true);
        x.hang(2, 1, true);
        x.tell(1, 0, 0, 30, 0);
        Check.due(-1, "unhang(0)", () -> x.unhang(0));
        Check.due(0, "unhang(1)", () -> x.unhang(1));
        Check.due(-1, "unhang(1) again", () -> x.unhang(1));
        Check.due(0, "nothing to add", () -> x.sum(0, 0, 0, 0));
        Check.due(1, "those below keep hanging", () -> x.unhang(2));
        Check.due(Check.BOUNDS, "unhang(3)", () -> x.unhang(3));
        Check.due(Check.BOUNDS, "unhang(-1)", () -> x.unhang(-1));
    }

    private static void addRoll() {
        Dimfacts x = withConcepts(3);
        Check.due(0, "addRoll(0, 1)", () -> x.addRoll(0, 1));
        Check.due(1, "addRoll(1, 0)", () -> x.addRoll(1, 0));
        Check.due(2, "the same again", () -> x.addRoll(0, 1));
        Check.due(3, "addRoll(2, 1)", () -> x.addRoll(2, 1));
        Check.due(4, "addRoll(0, 2)", () -> x.addRoll(0, 2));
        Check.due(Check.STATE, "a sixth rule", () -> x.addRoll(0, 1));
        Check.due(false, "the fifth rule is there", () -> x.isRollOff(4, 9, 3, 0));
        Check.due(Check.BOUNDS, "the sixth is not", () -> x.isRollOff(5, 9, 3, 0));
        Check.due(Check.ARGUMENT, "both the same, and five there", () -> x.addRoll(1, 1));
        Check.due(Check.BOUNDS, "no such flow, and five there", () -> x.addRoll(1, 3));
    }

    private static void addRollExceptions() {
        Dimfacts x = withConcepts(2);
        Check.due(Check.BOUNDS, "addRoll(2, 0)", () -> x.addRoll(2, 0));
        Check.due(Check.BOUNDS, "addRoll(0, 2)", () -> x.addRoll(0, 2));
        Check.due(Check.BOUNDS, "addRoll(-1, 0)", () -> x.addRoll(-1, 0));
        Check.due(Check.BOUNDS, "addRoll(0, -1)", () -> x.addRoll(0, -1));
        Check.due(Check.BOUNDS, "addRoll(2, 2)", () -> x.addRoll(2, 2));
        Check.due(Check.ARGUMENT, "addRoll(1, 1)", () -> x.addRoll(1, 1));
        Check.due(0, "what threw added nothing", () -> x.addRoll(1, 0));
    }
}
