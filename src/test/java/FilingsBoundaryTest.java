/** Promises 6 to 9, sentence by sentence: what is still taken, what is refused first, and that this changes nothing. */
public final class FilingsBoundaryTest {
    public static void main(String[] args) {
        promise6BeginsTheNextFiling();
        promise6ReturnsItsNumber();
        promise6ThrowsIllegalStateIfThereAre8();
        promise7TellsAFact();
        promise7ValueMinus1000000To1000000();
        promise7Decimals0To4();
        promise7ReturnsHowManyFactsThereAre();
        promise7ThrowsIndexOutOfBounds();
        promise7ThrowsIllegalArgumentIfValueOrDecimalsIsOutOfRange();
        promise7ThrowsIllegalStateIfThereAre80();
        promise8ReturnsHowManyPairsDoNotAgree();
        promise8ThrowsIndexOutOfBounds();
        promise9ReturnsForHowManyKeysAnotherValueHolds();
        promise9ThrowsIndexOutOfBounds();
        for (int promise = 6; promise <= 9; promise++) {
            Doc.allOf("Promise " + promise);
        }
        Check.end();
    }

    private static void promise6BeginsTheNextFiling() {
        Doc.says("Promise 6", "Begins the next filing");
        Dimfacts x = Made.concepts(1);
        for (int i = 0; i < 8; i++) {
            int filing = i;
            x.tell(0, 0, 0, 100 * filing, 0);
            Check.due(100 * filing, "facts are told in it", () -> x.value(0, 0, 0, filing));
            Check.due(Check.BOUNDS, "the next is not there", () -> x.value(0, 0, 0, filing + 1));
            if (filing < 7) {
                x.file();
                Check.due(100 * filing, "what held holds on", () -> x.value(0, 0, 0, filing + 1));
            }
        }
        for (int i = 0; i < 8; i++) {
            int filing = i;
            Check.due(100 * filing, "each keeps its own", () -> x.value(0, 0, 0, filing));
        }
    }

    private static void promise6ReturnsItsNumber() {
        Doc.says("Promise 6", "Returns its number");
        Dimfacts x = Made.empty();
        for (int i = 1; i < 8; i++) {
            Check.due(i, "the numbers go up, from 1", x::file);
        }
    }

    private static void promise6ThrowsIllegalStateIfThereAre8() {
        Doc.says("Promise 6", "Throws `IllegalStateException` if there are 8");
        Dimfacts x = Made.filings(7);
        Check.due(7, "there are 7: taken", x::file);
        Check.due(Check.STATE, "there are 8: refused", x::file);
        Check.due(Check.BOUNDS, "no filing 8 then", () -> x.restated(8));
        Refused.due(Check.STATE, "there are 8", () -> Made.filings(8), Dimfacts::file);
        Refused.due(Check.STATE, "there are 8, with all else", Made::full, Dimfacts::file);
    }

    private static void promise7TellsAFact() {
        Doc.says("Promise 7", "Tells a fact");
        Dimfacts x = Made.concepts(12);
        Check.due(Check.MISSING, "not there before", () -> x.value(11, 9, 3, 0));
        x.tell(11, 9, 3, -1000000, 4);
        Check.due(-1000000, "its value", () -> x.value(11, 9, 3, 0));
        Check.due(10000, "its doubt", () -> x.doubt(11, 9, 3, 0));
        Check.due(Check.MISSING, "not of the concept before", () -> x.value(10, 9, 3, 0));
        Check.due(Check.MISSING, "not of the period before", () -> x.value(11, 8, 3, 0));
        Check.due(Check.MISSING, "not of the member before", () -> x.value(11, 9, 2, 0));
        x.tell(0, 0, 0, 0, 0);
        Check.due(0, "a value of 0", () -> x.value(0, 0, 0, 0));
    }

    private static void promise7ValueMinus1000000To1000000() {
        Doc.says("Promise 7", "`value`: -1000000 to 1000000");
        int[] taken = {-1000000, -999999, -1, 0, 1, 999999, 1000000};
        for (int value : taken) {
            Dimfacts x = Made.concepts(1);
            Check.due(1, value + " is taken", () -> x.tell(0, 0, 0, value, 0));
            Check.due(value, "and holds", () -> x.value(0, 0, 0, 0));
        }
        int[] refused = {-1000001, 1000001, Integer.MIN_VALUE, Integer.MIN_VALUE + 1, Integer.MAX_VALUE};
        for (int value : refused) {
            Refused.due(Check.ARGUMENT, value + " is refused", Made::some, x -> x.tell(0, 0, 0, value, 0));
        }
    }

    private static void promise7Decimals0To4() {
        Doc.says("Promise 7", "`decimals`: 0 to 4");
        for (int decimals = 0; decimals < 5; decimals++) {
            int taken = decimals;
            Dimfacts x = Made.concepts(1);
            Check.due(1, taken + " is taken", () -> x.tell(0, 0, 0, 5, taken));
            Check.due((int) Math.pow(10, taken), "and holds", () -> x.doubt(0, 0, 0, 0));
        }
        int[] refused = {-1, 5, Integer.MIN_VALUE, Integer.MAX_VALUE, 1 << 30};
        for (int decimals : refused) {
            Refused.due(Check.ARGUMENT, decimals + " is refused", Made::some, x -> x.tell(0, 0, 0, 5, decimals));
        }
    }

    private static void promise7ReturnsHowManyFactsThereAre() {
        Doc.says("Promise 7", "Returns how many facts there are then");
        Dimfacts x = Made.concepts(12);
        for (int i = 1; i <= 80; i++) {
            int count = i;
            Check.due(count, "of all filings, the same said twice too", () -> x.tell(count / 7, 9, 3, 5, 0));
            if (count % 10 == 0 && count < 80) {
                x.file();
            }
        }
    }

    private static void promise7ThrowsIndexOutOfBounds() {
        Doc.says("Promise 7", "Throws `IndexOutOfBoundsException` if there is no such concept, period or member");
        Dimfacts x = Made.concepts(12);
        Check.due(1, "the first of each", () -> x.tell(0, 0, 0, 5, 0));
        Check.due(2, "the last of each", () -> x.tell(11, 9, 3, 6, 0));
        Check.due(6, "the last of each", () -> x.value(11, 9, 3, 0));
        Edges.refuses("concept of none", Made::empty, 0, (y, c) -> y.tell(c, 0, 0, 5, 0));
        Edges.refuses("concept of one", () -> Made.concepts(1), 1, (y, c) -> y.tell(c, 0, 0, 5, 0));
        Edges.refuses("concept of four", Made::some, 4, (y, c) -> y.tell(c, 0, 0, 5, 0));
        Edges.refuses("concept of twelve", Made::corners, 12, (y, c) -> y.tell(c, 0, 0, 5, 0));
        Edges.refuses("period", Made::corners, 10, (y, p) -> y.tell(p < 0 ? 1 : 10, p, 3, 5, 0));
        Edges.refuses("member", Made::some, 4, (y, m) -> y.tell(1, m < 0 ? 1 : 0, m, 5, 0));
        Edges.refuses("all three", Made::some, 12, (y, n) -> y.tell(n, n, n, 5, 0));
    }

    private static void promise7ThrowsIllegalArgumentIfValueOrDecimalsIsOutOfRange() {
        Doc.says("Promise 7", "Throws `IllegalArgumentException` if value or decimals is out of range");
        Check.due(1, "both the least", () -> Made.concepts(1).tell(0, 0, 0, -1000000, 0));
        Check.due(1, "both the most", () -> Made.concepts(1).tell(0, 0, 0, 1000000, 4));
        Refused.due(Check.ARGUMENT, "value less", Made::some, x -> x.tell(0, 9, 3, -1000001, 0));
        Refused.due(Check.ARGUMENT, "value more", Made::some, x -> x.tell(0, 9, 3, 1000001, 4));
        Refused.due(Check.ARGUMENT, "decimals less", Made::some, x -> x.tell(0, 9, 3, 1000000, -1));
        Refused.due(Check.ARGUMENT, "decimals more", Made::some, x -> x.tell(0, 9, 3, -1000000, 5));
        Refused.due(Check.ARGUMENT, "both", Made::some, x -> x.tell(0, 9, 3, 1000001, 5));
        Refused.due(Check.ARGUMENT, "without any fact", () -> Made.concepts(1), x -> x.tell(0, 0, 0, 0, 5));
        Refused.due(Check.ARGUMENT, "with 80 facts", () -> Made.facts(80), x -> x.tell(0, 0, 0, 1000001, 0));
    }

    private static void promise7ThrowsIllegalStateIfThereAre80() {
        Doc.says("Promise 7", "Throws `IllegalStateException` if there are 80 facts");
        Dimfacts x = Made.facts(79);
        Check.due(80, "there are 79: taken", () -> x.tell(11, 9, 3, 5, 0));
        Check.due(5, "it holds", () -> x.value(11, 9, 3, 0));
        Check.due(Check.STATE, "there are 80: refused", () -> x.tell(10, 9, 3, 6, 0));
        Check.due(Check.MISSING, "it does not hold", () -> x.value(10, 9, 3, 0));
        x.file();
        Check.due(Check.STATE, "in the next filing too", () -> x.tell(10, 9, 3, 6, 0));
        Refused.due(Check.STATE, "a key that is there", () -> Made.facts(80), y -> y.tell(0, 0, 0, 6, 0));
        Refused.due(Check.STATE, "a key that is not there", () -> Made.facts(80), y -> y.tell(0, 1, 0, 6, 0));
        Refused.due(Check.STATE, "with all else", Made::full, y -> y.tell(0, 9, 3, 6, 0));
    }

    private static void promise8ReturnsHowManyPairsDoNotAgree() {
        Doc.says("Promise 8", "Returns how many pairs of facts of a filing have the same key and do not agree");
        Dimfacts x = Made.filings(2);
        int pairs = 0;
        for (int i = 0; i < 80; i++) {
            int due = pairs;
            Check.due(due, i + " facts that all disagree", () -> x.disagreements(1));
            x.tell(0, 9, 3, 2 * i, 0);
            pairs += i;
        }
        Check.due(79 * 80 / 2, "80 facts that all disagree", () -> x.disagreements(1));
        Check.due(0, "none of them is of the filing before", () -> x.disagreements(0));
        Dimfacts y = Made.concepts(12);
        for (int i = 0; i < 80; i++) {
            y.tell(i % 8, i % 10, 0, 1000 * i, 0);
        }
        Check.due(40, "40 keys that are told twice", () -> y.disagreements(0));
        promise8TheLastThatAgrees();
    }

    private static void promise8TheLastThatAgrees() {
        Dimfacts x = Made.concepts(1);
        x.tell(0, 0, 0, 0, 4);
        x.tell(0, 0, 0, 5000, 0);
        x.tell(0, 0, 0, -5000, 0);
        Check.due(1, "10000 is at most 10001, on both sides; those two do not agree", () -> x.disagreements(0));
        x.tell(0, 0, 0, 5001, 0);
        Check.due(3, "10002 is not, nor is 10001 from -5000; it agrees with 5000", () -> x.disagreements(0));
    }

    private static void promise8ThrowsIndexOutOfBounds() {
        Doc.says("Promise 8", "Throws `IndexOutOfBoundsException` if there is no such filing");
        Dimfacts x = Made.filings(8);
        x.tell(0, 0, 0, 0, 0);
        x.tell(0, 0, 0, 2, 0);
        Check.due(0, "the first", () -> x.disagreements(0));
        Check.due(1, "the last", () -> x.disagreements(7));
        Check.due(0, "the only one", () -> Made.empty().disagreements(0));
        Edges.refuses("of a new object", Made::empty, 1, Dimfacts::disagreements);
        Edges.refusesFiling("disagreements", Dimfacts::disagreements);
    }

    private static void promise9ReturnsForHowManyKeysAnotherValueHolds() {
        Doc.says("Promise 9", "Returns for how many keys a filing has a fact, and as of the filing before it a value holds "
            + "that is another one than that which holds as of this filing");
        Dimfacts x = Made.concepts(12);
        for (int i = 0; i < 40; i++) {
            x.tell(i % 12, i / 12, i % 4, 100, 0);
        }
        Check.due(0, "the filing 0 has none before it", () -> x.restated(0));
        Made.filed(x, 8);
        for (int i = 0; i < 40; i++) {
            int count = i;
            Check.due(count, "so many keys are restated", () -> x.restated(7));
            x.tell(i % 12, i / 12, i % 4, i % 2 == 0 ? 101 : 99, 4);
        }
        Check.due(40, "all keys are, over six filings without facts", () -> x.restated(7));
        Check.due(0, "those six restate nothing", () -> x.restated(6));
        promise9TheSmallestChange();
    }

    private static void promise9TheSmallestChange() {
        Dimfacts x = Made.filings(2);
        x.tell(0, 9, 3, 7, 0);
        Check.due(0, "a key that is new", () -> x.restated(1));
        x.file();
        x.tell(0, 9, 3, 7, 4);
        Check.due(0, "the same value, other decimals", () -> x.restated(2));
        x.tell(0, 9, 3, 8, 4);
        Check.due(0, "one more, but it does not hold", () -> x.restated(2));
        x.tell(0, 9, 3, 8, 3);
        Check.due(1, "one more, and it holds", () -> x.restated(2));
        x.tell(0, 9, 3, 7, 2);
        Check.due(0, "the same value holds again", () -> x.restated(2));
        x.tell(0, 9, 3, 6, 1);
        x.tell(0, 9, 3, 5, 0);
        Check.due(1, "a key counts once", () -> x.restated(2));
        x.file();
        Check.due(0, "a filing without facts", () -> x.restated(3));
        x.tell(0, 9, 3, 5, 0);
        Check.due(0, "the value of the filing before, not of the first", () -> x.restated(3));
        x.tell(0, 9, 2, 5, 0);
        Check.due(0, "another key that is new", () -> x.restated(3));
    }

    private static void promise9ThrowsIndexOutOfBounds() {
        Doc.says("Promise 9", "Throws `IndexOutOfBoundsException` if there is no such filing");
        Check.due(0, "the first", () -> Made.corners().restated(0));
        Check.due(16, "the last", () -> Made.corners().restated(7));
        Check.due(0, "the only one", () -> Made.empty().restated(0));
        Edges.refuses("of a new object", Made::empty, 1, Dimfacts::restated);
        Edges.refusesFiling("restated", Dimfacts::restated);
    }
}
