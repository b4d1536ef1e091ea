/** Promises 10 to 13, sentence by sentence: what is still taken, what is refused first, and that this changes nothing. */
public final class ValuesBoundaryTest {
    private static final String AS_TOLD = "Throws `IndexOutOfBoundsException` as told";

    public static void main(String[] args) {
        promise10ReturnsTheValueThatHolds();
        promise10ThrowsIndexOutOfBounds();
        promise10ThrowsNoSuchElementIfNoFactHolds();
        promise11ReturnsTheDoubt();
        promise11ThrowsIndexOutOfBounds();
        promise11ThrowsNoSuchElementIfNoFactHolds();
        promise12ReturnsTheSumOr0();
        promise12ThrowsIndexOutOfBounds();
        promise13ReturnsTheValueOrWhatIsDerived();
        promise13DerivedOverAllLevels();
        promise13DerivedOverAllThatHang();
        promise13ThrowsIndexOutOfBounds();
        promise13ThrowsNoSuchElementIfNoFactHoldsAndNoneHangsUnderIt();
        promise13ThrowsNoSuchElementIfOneHasNoValue();
        for (int promise = 10; promise <= 13; promise++) {
            Doc.allOf("Promise " + promise);
        }
        Check.end();
    }

    private static void refusesAllThatAreNot(String name, Edges.KeyCall call) {
        Edges.refusesConcept(name, call);
        Edges.refusesPeriod(name, call);
        Edges.refusesMember(name, call);
        Edges.refusesFiling(name, call);
    }

    private static void promise10ReturnsTheValueThatHolds() {
        Doc.says("Promise 10", "Returns the value that holds for a key as of a filing");
        Dimfacts x = Made.concepts(1);
        x.tell(0, 0, 0, 1000000, 4);
        Check.due(1000000, "the only one, the most", () -> x.value(0, 0, 0, 0));
        x.tell(0, 0, 0, -1000000, 4);
        Check.due(1000000, "still the first of the same decimals", () -> x.value(0, 0, 0, 0));
        x.tell(0, 0, 0, -1000000, 3);
        Check.due(-1000000, "the least, with less decimals", () -> x.value(0, 0, 0, 0));
        for (int i = 4; i <= 80; i++) {
            x.tell(0, 0, 0, i, 4);
        }
        Check.due(-1000000, "of 80 facts of one key", () -> x.value(0, 0, 0, 0));
        Dimfacts y = Made.facts(79);
        y.tell(11, 9, 3, 4711, 3);
        Check.due(4711, "the last of 80", () -> y.value(11, 9, 3, 0));
        Check.due(0, "the first of 80", () -> y.value(0, 0, 0, 0));
    }

    private static void promise10ThrowsIndexOutOfBounds() {
        Doc.says("Promise 10", AS_TOLD);
        Check.due(0, "the first of all", () -> Made.corners().value(0, 0, 0, 0));
        Check.due(119370, "the last of all", () -> Made.corners().value(11, 9, 3, 7));
        Check.due(119300, "the filing before the last", () -> Made.corners().value(11, 9, 3, 6));
        refusesAllThatAreNot("value", Dimfacts::value);
    }

    private static void promise10ThrowsNoSuchElementIfNoFactHolds() {
        Doc.says("Promise 10", "Throws `java` .util.NoSuchElementException if no fact holds");
        noFactHolds("value", Dimfacts::value, 7);
    }

    /** Facts for all keys but one around a key; then one for it, in the filing 1. */
    private static void noFactHolds(String name, Edges.KeyCall call, int due) {
        Refused.due(Check.MISSING, name + ", no fact at all", () -> Made.concepts(1), x -> call.on(x, 0, 0, 0, 0));
        Refused.due(Check.MISSING, name + ", all full", Made::full, x -> call.on(x, 3, 9, 3, 7));
        Refused.due(Check.MISSING, name + ", only in the next filing", Made::full, x -> call.on(x, 0, 9, 3, 2));
        Dimfacts x = Made.concepts(3);
        x.file();
        int[][] others = {{0, 5, 2}, {2, 5, 2}, {1, 4, 2}, {1, 6, 2}, {1, 5, 1}, {1, 5, 3}};
        for (int[] k : others) {
            x.tell(k[0], k[1], k[2], 5, 4);
        }
        x.hang(0, 1, true);
        x.hang(1, 2, true);
        Check.due(Check.MISSING, name + ", only keys next to it", () -> call.on(x, 1, 5, 2, 1));
        x.tell(1, 5, 2, 7, 0);
        Check.due(due, name + ", the first fact", () -> call.on(x, 1, 5, 2, 1));
        Check.due(Check.MISSING, name + ", not as of the filing before", () -> call.on(x, 1, 5, 2, 0));
        x.file();
        Check.due(due, name + ", as of the filing behind it", () -> call.on(x, 1, 5, 2, 2));
    }

    private static void promise11ReturnsTheDoubt() {
        Doc.says("Promise 11", "Returns the doubt of the fact that holds for a key as of a filing");
        int[] doubts = {1, 10, 100, 1000, 10000};
        Dimfacts x = Made.concepts(1);
        for (int i = 4; i >= 0; i--) {
            int decimals = i;
            x.tell(0, 0, 0, 5, decimals);
            Check.due(doubts[decimals], "down to the least of the filing", () -> x.doubt(0, 0, 0, 0));
        }
        x.file();
        Check.due(1, "as of the next filing", () -> x.doubt(0, 0, 0, 1));
        x.tell(0, 0, 0, 5, 4);
        Check.due(10000, "the next filing goes before less decimals", () -> x.doubt(0, 0, 0, 1));
        Check.due(1, "as of the filing before", () -> x.doubt(0, 0, 0, 0));
    }

    private static void promise11ThrowsIndexOutOfBounds() {
        Doc.says("Promise 11", AS_TOLD);
        Check.due(1, "the first of all", () -> Made.corners().doubt(0, 0, 0, 0));
        Check.due(10000, "the last of all", () -> Made.corners().doubt(11, 9, 3, 7));
        Check.due(1000, "the filing before the last", () -> Made.corners().doubt(11, 9, 3, 6));
        refusesAllThatAreNot("doubt", Dimfacts::doubt);
    }

    private static void promise11ThrowsNoSuchElementIfNoFactHolds() {
        Doc.says("Promise 11", "Throws `java` .util.NoSuchElementException if no fact holds");
        noFactHolds("doubt", Dimfacts::doubt, 1);
    }

    private static void promise12ReturnsTheSumOr0() {
        Doc.says("Promise 12", "Returns the sum for a key as of a filing; 0 if there is nothing to add");
        Dimfacts x = Made.concepts(12);
        Check.due(0, "none hangs under it", () -> x.sum(11, 9, 3, 0));
        for (int i = 0; i < 11; i++) {
            x.hang(i, 11, i % 2 == 0);
        }
        Check.due(0, "eleven do, without facts", () -> x.sum(11, 9, 3, 0));
        x.tell(11, 9, 3, 1000000, 0);
        Check.due(0, "only its own fact", () -> x.sum(11, 9, 3, 0));
        x.tell(1, 9, 3, -1000000, 0);
        Check.due(1000000, "one, the least, with the weight -1", () -> x.sum(11, 9, 3, 0));
        x.tell(10, 9, 3, 1000000, 0);
        Check.due(2000000, "two", () -> x.sum(11, 9, 3, 0));
        x.file();
        x.tell(1, 9, 3, 1000000, 0);
        Check.due(0, "two that make 0", () -> x.sum(11, 9, 3, 1));
        for (int i = 0; i < 11; i++) {
            x.tell(i, 9, 3, i % 2 == 0 ? 1000000 : -1000000, 0);
            x.tell(i, 8, 3, i % 2 == 0 ? -1000000 : 1000000, 0);
        }
        Check.due(9000000, "all but 1, whose first fact of two holds", () -> x.sum(11, 9, 3, 1));
        Check.due(-11000000, "the least sum", () -> x.sum(11, 8, 3, 1));
        Check.due(2000000, "as of the filing before", () -> x.sum(11, 9, 3, 0));
    }

    private static void promise12ThrowsIndexOutOfBounds() {
        Doc.says("Promise 12", AS_TOLD);
        Check.due(10000, "the first of all", () -> Made.corners().sum(0, 0, 0, 0));
        Check.due(109370, "the last of all", () -> Made.corners().sum(11, 9, 3, 7));
        Check.due(109300, "the filing before the last", () -> Made.corners().sum(11, 9, 3, 6));
        Check.due(0, "the only concept", () -> Made.concepts(1).sum(0, 0, 0, 0));
        refusesAllThatAreNot("sum", Dimfacts::sum);
    }

    private static void promise13ReturnsTheValueOrWhatIsDerived() {
        Doc.says("Promise 13", "Returns the value that holds for a key as of a filing; or, if none does, what is derived: the sum, "
            + "over all concepts that hang directly under the key's concept, of the weight times the value of each that holds or is derived likewise");
        Dimfacts x = Made.concepts(4);
        x.hang(1, 0, true);
        x.hang(2, 1, false);
        x.hang(3, 1, true);
        x.tell(2, 9, 3, 1000000, 0);
        x.tell(3, 9, 3, -1000000, 0);
        Check.due(-2000000, "derived over one that is derived", () -> x.derived(0, 9, 3, 0));
        x.file();
        x.tell(1, 9, 3, 0, 4);
        Check.due(0, "derived of one that holds, a 0", () -> x.derived(0, 9, 3, 1));
        Check.due(-2000000, "as of the filing before it is derived still", () -> x.derived(1, 9, 3, 0));
        x.file();
        x.tell(0, 9, 3, 5, 4);
        Check.due(5, "its own, whatever its decimals", () -> x.derived(0, 9, 3, 2));
        Check.due(0, "as of the filing before", () -> x.derived(0, 9, 3, 1));
        Check.due(-2000000, "as of the first filing", () -> x.derived(0, 9, 3, 0));
        Check.due(5, "asking tells nothing", () -> x.tell(1, 0, 0, 0, 0));
    }

    private static void promise13DerivedOverAllLevels() {
        Dimfacts x = Made.concepts(12);
        for (int i = 0; i < 11; i++) {
            x.hang(i, i + 1, false);
        }
        x.tell(0, 0, 0, 1000000, 0);
        for (int i = 0; i < 12; i++) {
            int level = i;
            Check.due(level % 2 == 0 ? 1000000 : -1000000, "over " + level + " levels", () -> x.derived(level, 0, 0, 0));
        }
        x.tell(6, 0, 0, 9, 0);
        Check.due(-9, "down to the first that holds", () -> x.derived(11, 0, 0, 0));
    }

    private static void promise13DerivedOverAllThatHang() {
        Dimfacts x = Made.concepts(12);
        for (int i = 1; i < 12; i++) {
            x.hang(i, i < 6 ? 0 : 5, true);
            if (i != 5) {
                x.tell(i, 0, 0, 1000000, 0);
            }
        }
        Check.due(10000000, "ten on two levels", () -> x.derived(0, 0, 0, 0));
        Check.due(6000000, "six under the middle one", () -> x.derived(5, 0, 0, 0));
        x.hang(5, 0, false);
        Check.due(4000000 - 6000000, "the middle one with the weight -1", () -> x.derived(0, 0, 0, 0));
    }

    private static void promise13ThrowsIndexOutOfBounds() {
        Doc.says("Promise 13", AS_TOLD);
        Check.due(0, "the first of all", () -> Made.corners().derived(0, 0, 0, 0));
        Check.due(119370, "the last of all", () -> Made.corners().derived(11, 9, 3, 7));
        Check.due(119300, "the filing before the last", () -> Made.corners().derived(11, 9, 3, 6));
        refusesAllThatAreNot("derived", Dimfacts::derived);
    }

    private static void promise13ThrowsNoSuchElementIfNoFactHoldsAndNoneHangsUnderIt() {
        Doc.says("Promise 13", "Throws `java` .util.NoSuchElementException if no fact holds, and none hangs directly under it, "
            + "or one of those has no value that holds or is derived");
        Refused.due(Check.MISSING, "no fact at all", () -> Made.concepts(1), x -> x.derived(0, 0, 0, 0));
        Refused.due(Check.MISSING, "all full, one that none hangs under", () -> Made.facts(80), x -> x.derived(11, 9, 2, 0));
        Refused.due(Check.MISSING, "only in the next filing", Made::full, x -> x.derived(11, 9, 3, 2));
        Check.due(11000 * 3 + 3 * 70, "as of the next filing", () -> Made.full().derived(11, 9, 3, 3));
        Dimfacts x = Made.concepts(1);
        Check.due(Check.MISSING, "the only concept, without a fact", () -> x.derived(0, 0, 0, 0));
        x.tell(0, 0, 0, 0, 0);
        Check.due(0, "with one", () -> x.derived(0, 0, 0, 0));
    }

    private static void promise13ThrowsNoSuchElementIfOneHasNoValue() {
        Dimfacts x = Made.concepts(12);
        for (int i = 1; i < 12; i++) {
            x.hang(i, 0, true);
        }
        for (int i = 1; i < 12; i++) {
            int part = i;
            Check.due(Check.MISSING, part - 1 + " of eleven have a value", () -> x.derived(0, 9, 3, 0));
            x.tell(part, 9, 3, 1, 0);
        }
        Check.due(11, "all eleven have", () -> x.derived(0, 9, 3, 0));
        Check.due(Check.MISSING, "not in another period", () -> x.derived(0, 8, 3, 0));
        Check.due(Check.MISSING, "not for another member", () -> x.derived(0, 9, 2, 0));
        x.hang(11, 10, true);
        Check.due(10, "10 holds, whatever hangs under it", () -> x.derived(0, 9, 3, 0));
        Refused.due(Check.MISSING, "the last of a chain has none", () -> Made.chain(12), y -> y.derived(0, 0, 0, 0));
        Refused.due(Check.MISSING, "one of the middle has none", Made::full, y -> y.derived(2, 9, 2, 1));
    }
}
