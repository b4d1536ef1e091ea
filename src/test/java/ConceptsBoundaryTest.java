/** Promises 1 to 5, sentence by sentence: what is still taken, what is refused first, and that this changes nothing. */
public final class ConceptsBoundaryTest {
    public static void main(String[] args) {
        promise1BeginsWithoutAnythingWithTheFiling0();
        promise2AddsAConceptWhichHangsUnderNone();
        promise2ReturnsItsNumber();
        promise2ThrowsIllegalStateIfThereAre12();
        promise3HangsInPlaceOfWhatItHungUnder();
        promise3IsPlusIsTheWeight1OrMinus1();
        promise3ReturnsWhatItHungUnder();
        promise3ThrowsIndexOutOfBounds();
        promise3ThrowsIllegalArgumentIfTheParentIsTheConceptOrHangsUnderIt();
        promise4LetsAConceptHangUnderNone();
        promise4ReturnsWhatItHungUnder();
        promise4ThrowsIndexOutOfBounds();
        promise5AddsARollRule();
        promise5ReturnsItsNumber();
        promise5ThrowsIndexOutOfBounds();
        promise5ThrowsIllegalArgumentIfBothAreTheSame();
        promise5ThrowsIllegalStateIfThereAre5();
        for (int promise = 1; promise <= 5; promise++) {
            Doc.allOf("Promise " + promise);
        }
        Check.end();
    }

    private static void promise1BeginsWithoutAnythingWithTheFiling0() {
        Doc.says("Promise 1", "Begins without concepts, facts and rules, with the filing 0");
        Dimfacts x = Made.empty();
        Check.due(Check.BOUNDS, "no concept 0", () -> x.sum(0, 0, 0, 0));
        Check.due(Check.BOUNDS, "no rule 0", () -> x.isRollOff(0, 1, 0, 0));
        Check.due(Check.BOUNDS, "no filing 1", () -> x.faults(1));
        Check.due(0, "the filing 0 without faults", () -> x.faults(0));
        Check.due(0, "the filing 0 without faults in the list", () -> x.faultsByList(0));
        Check.due(0, "the filing 0 without facts", () -> x.disagreements(0));
        Check.due(0, "the filing 0 restates nothing", () -> x.restated(0));
        Check.due(0, "the first concept", x::addConcept);
        Check.due(Check.MISSING, "no fact of it", () -> x.value(0, 0, 0, 0));
        Check.due(1, "the first fact", () -> x.tell(0, 0, 0, 0, 0));
        Check.due(1, "the second concept", x::addConcept);
        Check.due(0, "the first rule", () -> x.addRoll(0, 1));
        Check.due(1, "the second filing", x::file);
    }

    private static void promise2AddsAConceptWhichHangsUnderNone() {
        Doc.says("Promise 2", "Adds a concept, which hangs under none");
        Dimfacts x = Made.empty();
        for (int i = 0; i < 12; i++) {
            int concept = i;
            Check.due(Check.BOUNDS, "not there before", () -> x.unhang(concept));
            x.addConcept();
            Check.due(-1, "hangs under none", () -> x.unhang(concept));
            Check.due(Check.MISSING, "none under it, and no fact", () -> x.derived(concept, 9, 3, 0));
        }
    }

    private static void promise2ReturnsItsNumber() {
        Doc.says("Promise 2", "Returns its number");
        Dimfacts x = Made.empty();
        for (int i = 0; i < 12; i++) {
            Check.due(i, "the numbers go up", x::addConcept);
        }
    }

    private static void promise2ThrowsIllegalStateIfThereAre12() {
        Doc.says("Promise 2", "Throws `IllegalStateException` if there are 12");
        Dimfacts x = Made.concepts(11);
        Check.due(11, "there are 11: taken", x::addConcept);
        Check.due(Check.STATE, "there are 12: refused", x::addConcept);
        Check.due(Check.BOUNDS, "no concept 12 then", () -> x.unhang(12));
        Refused.due(Check.STATE, "there are 12", () -> Made.concepts(12), Dimfacts::addConcept);
        Refused.due(Check.STATE, "there are 12, with all else", Made::full, Dimfacts::addConcept);
    }

    private static void promise3HangsInPlaceOfWhatItHungUnder() {
        Doc.says("Promise 3", "Hangs a concept under another one, in place of what it hung under");
        Dimfacts x = Made.concepts(12);
        x.tell(11, 0, 0, 7, 0);
        for (int i = 0; i < 11; i++) {
            int parent = i;
            x.hang(11, parent, true);
            Check.due(7, "under " + parent, () -> x.sum(parent, 0, 0, 0));
            Check.due(0, "no longer under the one before", () -> x.sum(parent == 0 ? 10 : parent - 1, 0, 0, 0));
        }
        for (int i = 0; i < 10; i++) {
            x.tell(i, 1, 0, 1, 0);
            x.hang(i, 10, true);
        }
        x.tell(11, 1, 0, 1, 0);
        Check.due(11, "eleven under one", () -> x.sum(10, 1, 0, 0));
    }

    private static void promise3IsPlusIsTheWeight1OrMinus1() {
        Doc.says("Promise 3", "`isPlus`: whether its weight is 1, otherwise it is -1");
        Dimfacts x = Made.concepts(12);
        x.tell(0, 0, 0, 9, 0);
        x.hang(0, 11, true);
        Check.due(9, "plus", () -> x.sum(11, 0, 0, 0));
        x.hang(0, 11, false);
        Check.due(-9, "minus, under the same", () -> x.sum(11, 0, 0, 0));
        x.hang(0, 11, true);
        Check.due(9, "plus again", () -> x.sum(11, 0, 0, 0));
        x.hang(0, 11, false);
        x.unhang(0);
        x.hang(0, 11, true);
        Check.due(9, "plus, after it hung under none", () -> x.sum(11, 0, 0, 0));
    }

    private static void promise3ReturnsWhatItHungUnder() {
        Doc.says("Promise 3", "Returns what it hung under; NONE for none");
        Dimfacts x = Made.concepts(12);
        Check.due(Dimfacts.NONE, "none at first", () -> x.hang(5, 0, true));
        Check.due(0, "the first", () -> x.hang(5, 11, false));
        Check.due(11, "the last", () -> x.hang(5, 11, true));
        Check.due(11, "the same again", () -> x.hang(5, 0, true));
        x.unhang(5);
        Check.due(Dimfacts.NONE, "none after it was let go", () -> x.hang(5, 0, true));
    }

    private static void promise3ThrowsIndexOutOfBounds() {
        Doc.says("Promise 3", "Throws `IndexOutOfBoundsException` if there is no such concept or parent");
        Dimfacts x = Made.concepts(12);
        Check.due(-1, "the last concept", () -> x.hang(11, 0, true));
        Check.due(-1, "the last parent", () -> x.hang(1, 11, true));
        Edges.refuses("concept of none", Made::empty, 0, (y, c) -> y.hang(c, 0, true));
        Edges.refuses("concept of one", () -> Made.concepts(1), 1, (y, c) -> y.hang(c, 0, true));
        Edges.refuses("parent of one", () -> Made.concepts(1), 1, (y, p) -> y.hang(0, p, true));
        Edges.refuses("concept of four", Made::some, 4, (y, c) -> y.hang(c, 3, false));
        Edges.refuses("parent of four", Made::some, 4, (y, p) -> y.hang(1, p, false));
        Edges.refuses("concept of twelve", Made::full, 12, (y, c) -> y.hang(c, 11, true));
        Edges.refuses("parent of twelve", Made::full, 12, (y, p) -> y.hang(11, p, true));
        Edges.refuses("both", Made::full, 12, (y, c) -> y.hang(c, c, true));
    }

    private static void promise3ThrowsIllegalArgumentIfTheParentIsTheConceptOrHangsUnderIt() {
        Doc.says("Promise 3", "Throws `IllegalArgumentException` if the parent is the concept, or hangs under it, directly or over others");
        for (int i = 0; i < 12; i++) {
            int concept = i;
            Refused.due(Check.ARGUMENT, "the concept itself", () -> Made.chain(12), x -> x.hang(concept, concept, false));
            for (int j = i + 1; j < 12; j++) {
                int parent = j;
                Dimfacts x = Made.chain(12);
                Check.due(Check.ARGUMENT, parent + " hangs under " + concept, () -> x.hang(concept, parent, true));
                Dimfacts y = Made.chain(12);
                int before = concept == 0 ? Dimfacts.NONE : concept - 1;
                y.unhang(parent);
                Check.due(before, parent + " was let go", () -> y.hang(concept, parent, true));
                Check.due(parent - 1, parent + " under what is above it", () -> Made.chain(12).hang(parent, concept, true));
            }
        }
        Refused.due(Check.ARGUMENT, "directly", () -> Made.chain(12), x -> x.hang(10, 11, true));
        Refused.due(Check.ARGUMENT, "over one", () -> Made.chain(12), x -> x.hang(9, 11, true));
        Refused.due(Check.ARGUMENT, "over ten", () -> Made.chain(12), x -> x.hang(0, 11, true));
        Refused.due(Check.ARGUMENT, "the only concept", () -> Made.concepts(1), x -> x.hang(0, 0, true));
        Dimfacts x = Made.concepts(3);
        x.hang(1, 0, true);
        Check.due(-1, "beside it, under the same", () -> x.hang(2, 0, true));
        Check.due(0, "under one beside it", () -> x.hang(2, 1, true));
    }

    private static void promise4LetsAConceptHangUnderNone() {
        Doc.says("Promise 4", "Lets a concept hang under none");
        Dimfacts x = Made.chain(12);
        x.tell(11, 0, 0, 7, 0);
        Check.due(7, "over ten others", () -> x.derived(0, 0, 0, 0));
        x.unhang(11);
        Check.due(0, "it is not added then", () -> x.sum(10, 0, 0, 0));
        Check.due(Check.MISSING, "nothing is derived then", () -> x.derived(0, 0, 0, 0));
        x.unhang(5);
        Check.due(5, "what hangs under it goes on doing so", () -> x.unhang(6));
        Check.due(3, "and what is above it", () -> x.unhang(4));
    }

    private static void promise4ReturnsWhatItHungUnder() {
        Doc.says("Promise 4", "Returns what it hung under; NONE for none");
        Dimfacts x = Made.concepts(12);
        Check.due(Dimfacts.NONE, "none at first", () -> x.unhang(0));
        x.hang(0, 11, true);
        x.hang(11, 1, true);
        Check.due(11, "the last", () -> x.unhang(0));
        Check.due(Dimfacts.NONE, "none then", () -> x.unhang(0));
        Check.due(1, "the other one", () -> x.unhang(11));
        x.hang(11, 0, true);
        Check.due(0, "the first", () -> x.unhang(11));
    }

    private static void promise4ThrowsIndexOutOfBounds() {
        Doc.says("Promise 4", "Throws `IndexOutOfBoundsException` if there is no such concept");
        Check.due(10, "the last concept", () -> Made.chain(12).unhang(11));
        Check.due(-1, "the first concept", () -> Made.chain(12).unhang(0));
        Edges.refuses("of none", Made::empty, 0, Dimfacts::unhang);
        Edges.refuses("of one", () -> Made.concepts(1), 1, Dimfacts::unhang);
        Edges.refuses("of four", Made::some, 4, Dimfacts::unhang);
        Edges.refuses("of twelve", Made::full, 12, Dimfacts::unhang);
    }

    private static void promise5AddsARollRule() {
        Doc.says("Promise 5", "Adds a roll rule");
        Dimfacts x = Made.concepts(12);
        x.tell(11, 0, 0, 10, 0);
        x.tell(11, 1, 0, 50, 0);
        x.tell(0, 1, 0, 40, 0);
        x.tell(1, 1, 0, 30, 0);
        for (int i = 0; i < 5; i++) {
            int rule = i;
            Check.due(Check.BOUNDS, "not there before", () -> x.isRollOff(rule, 1, 0, 0));
            x.addRoll(11, rule % 2);
            Check.due(rule % 2 == 1, "then it is asked", () -> x.isRollOff(rule, 1, 0, 0));
        }
    }

    private static void promise5ReturnsItsNumber() {
        Doc.says("Promise 5", "Returns its number");
        Dimfacts x = Made.concepts(12);
        for (int i = 0; i < 5; i++) {
            int rule = i;
            Check.due(rule, "the numbers go up, for the same rule too", () -> x.addRoll(rule / 2, 11));
        }
    }

    private static void promise5ThrowsIndexOutOfBounds() {
        Doc.says("Promise 5", "Throws `IndexOutOfBoundsException` if there is no such stock or flow");
        Check.due(0, "the last stock, the first flow", () -> Made.concepts(12).addRoll(11, 0));
        Check.due(0, "the first stock, the last flow", () -> Made.concepts(12).addRoll(0, 11));
        Edges.refuses("stock of none", Made::empty, 0, (x, c) -> x.addRoll(c, 0));
        Edges.refuses("flow of one", () -> Made.concepts(1), 1, (x, c) -> x.addRoll(0, c));
        Edges.refuses("stock of four", Made::some, 4, (x, c) -> x.addRoll(c, 0));
        Edges.refuses("flow of four", Made::some, 4, (x, c) -> x.addRoll(0, c));
        Edges.refuses("stock of twelve", () -> Made.rules(4), 12, (x, c) -> x.addRoll(c, 0));
        Edges.refuses("flow of twelve", () -> Made.rules(4), 12, (x, c) -> x.addRoll(0, c));
        Edges.refuses("both the same, five rules there", Made::full, 12, (x, c) -> x.addRoll(c, c));
    }

    private static void promise5ThrowsIllegalArgumentIfBothAreTheSame() {
        Doc.says("Promise 5", "Throws `IllegalArgumentException` if both are the same");
        for (int i = 0; i < 12; i++) {
            int concept = i;
            Refused.due(Check.ARGUMENT, "both " + concept, () -> Made.rules(4), x -> x.addRoll(concept, concept));
            Check.due(4, "next to each other", () -> Made.rules(4).addRoll(concept, (concept + 1) % 12));
        }
        Refused.due(Check.ARGUMENT, "five rules there", () -> Made.rules(5), x -> x.addRoll(0, 0));
    }

    private static void promise5ThrowsIllegalStateIfThereAre5() {
        Doc.says("Promise 5", "Throws `IllegalStateException` if there are 5 rules");
        Dimfacts x = Made.rules(4);
        Check.due(4, "there are 4: taken", () -> x.addRoll(4, 11));
        Check.due(Check.STATE, "there are 5: refused", () -> x.addRoll(5, 11));
        Check.due(false, "the last is there", () -> x.isRollOff(4, 1, 0, 0));
        Check.due(Check.BOUNDS, "no rule 5 then", () -> x.isRollOff(5, 1, 0, 0));
        Refused.due(Check.STATE, "another rule", () -> Made.rules(5), y -> y.addRoll(5, 11));
        Refused.due(Check.STATE, "a rule that is there", () -> Made.rules(5), y -> y.addRoll(0, 11));
        Refused.due(Check.STATE, "with all else", Made::full, y -> y.addRoll(5, 6));
    }
}
