/** Promises 6 to 9: file, tell, disagreements, restated. */
public final class FilingsTest {
    public static void main(String[] args) {
        file();
        tellRanges();
        tellExceptionOrder();
        tellCounts();
        tellGoesToTheLatestFiling();
        disagreements();
        disagreementsNeedOneKeyAndOneFiling();
        restated();
        restatedCountsKeys();
        noSuchFiling();
        Check.end();
    }

    private static void file() {
        Dimfacts x = new Dimfacts();
        for (int i = 1; i < 8; i++) {
            Check.due(i, "file()", x::file);
            int next = i + 1;
            Check.due(0, "the filing is there", () -> x.faults(next - 1));
            Check.due(Check.BOUNDS, "the next is not", () -> x.faults(next));
        }
        Check.due(Check.STATE, "a ninth filing", x::file);
        Check.due(Check.STATE, "a ninth filing again", x::file);
        Check.due(Check.BOUNDS, "no filing 8", () -> x.faults(8));
    }

    private static void tellRanges() {
        Dimfacts x = ConceptsTest.withConcepts(2);
        Check.due(Check.BOUNDS, "concept -1", () -> x.tell(-1, 0, 0, 0, 0));
        Check.due(Check.BOUNDS, "concept 2", () -> x.tell(2, 0, 0, 0, 0));
        Check.due(Check.BOUNDS, "period -1", () -> x.tell(0, -1, 0, 0, 0));
        Check.due(Check.BOUNDS, "period 10", () -> x.tell(0, 10, 0, 0, 0));
        Check.due(Check.BOUNDS, "member -1", () -> x.tell(0, 0, -1, 0, 0));
        Check.due(Check.BOUNDS, "member 4", () -> x.tell(0, 0, 4, 0, 0));
        Check.due(Check.ARGUMENT, "value 1000001", () -> x.tell(0, 0, 0, 1000001, 0));
        Check.due(Check.ARGUMENT, "value -1000001", () -> x.tell(0, 0, 0, -1000001, 0));
        Check.due(Check.ARGUMENT, "the least value", () -> x.tell(0, 0, 0, Integer.MIN_VALUE, 0));
        Check.due(Check.ARGUMENT, "the most value", () -> x.tell(0, 0, 0, Integer.MAX_VALUE, 0));
        Check.due(Check.ARGUMENT, "decimals -1", () -> x.tell(0, 0, 0, 0, -1));
        Check.due(Check.ARGUMENT, "decimals 5", () -> x.tell(0, 0, 0, 0, 5));
        Check.due(Check.MISSING, "nothing was told", () -> x.value(0, 0, 0, 0));
        Check.due(1, "the first that is told", () -> x.tell(0, 0, 0, 1000000, 0));
        Check.due(2, "the least that can be told", () -> x.tell(1, 9, 3, -1000000, 4));
        Check.due(1000000, "value", () -> x.value(0, 0, 0, 0));
        Check.due(-1000000, "value", () -> x.value(1, 9, 3, 0));
    }

    private static void tellExceptionOrder() {
        Dimfacts x = ConceptsTest.withConcepts(1);
        Check.due(Check.BOUNDS, "bounds before argument", () -> x.tell(0, 10, 0, 1000001, 0));
        Check.due(Check.BOUNDS, "bounds before argument", () -> x.tell(1, 0, 0, 0, 5));
        for (int i = 0; i < 80; i++) {
            x.tell(0, i % 10, i % 4, i, 0);
        }
        Check.due(Check.STATE, "the 81st fact", () -> x.tell(0, 0, 0, 0, 0));
        Check.due(Check.ARGUMENT, "argument before state", () -> x.tell(0, 0, 0, 1000001, 0));
        Check.due(Check.ARGUMENT, "argument before state", () -> x.tell(0, 0, 0, 0, -1));
        Check.due(Check.BOUNDS, "bounds before state", () -> x.tell(0, 0, 4, 0, 0));
        x.file();
        Check.due(Check.STATE, "80 in all filings together", () -> x.tell(0, 0, 0, 0, 0));
    }

    private static void tellCounts() {
        Dimfacts x = ConceptsTest.withConcepts(1);
        for (int i = 1; i <= 80; i++) {
            int value = i;
            Check.due(i, "how many facts", () -> x.tell(0, 9, 3, value, 4));
            if (i % 12 == 0) {
                x.file();
            }
        }
        Check.due(73, "the first of the last filing", () -> x.value(0, 9, 3, 6));
        Check.due(1, "the first of all", () -> x.value(0, 9, 3, 0));
    }

    private static void tellGoesToTheLatestFiling() {
        Dimfacts x = ConceptsTest.withConcepts(1);
        x.file();
        x.tell(0, 0, 0, 5, 0);
        Check.due(Check.MISSING, "not in the filing before", () -> x.value(0, 0, 0, 0));
        Check.due(5, "in the latest", () -> x.value(0, 0, 0, 1));
        x.file();
        Check.due(5, "and as of those behind it", () -> x.value(0, 0, 0, 2));
    }

    private static void disagreements() {
        Dimfacts x = ConceptsTest.withConcepts(1);
        x.tell(0, 0, 0, 100, 0);
        Check.due(0, "one fact alone", () -> x.disagreements(0));
        x.tell(0, 0, 0, 100, 0);
        Check.due(0, "the same twice", () -> x.disagreements(0));
        x.tell(0, 0, 0, 101, 0);
        Check.due(0, "2 * 1 is at most 1 + 1", () -> x.disagreements(0));
        x.tell(0, 0, 0, 99, 0);
        Check.due(1, "99 and 101", () -> x.disagreements(0));
        x.tell(0, 0, 0, 105, 1);
        Check.due(2, "105 at ten agrees with 100 and 101, not with 99", () -> x.disagreements(0));
        x.tell(0, 0, 0, -1000000, 4);
        Check.due(7, "far from all five", () -> x.disagreements(0));
    }

    private static void disagreementsNeedOneKeyAndOneFiling() {
        Dimfacts x = ConceptsTest.withConcepts(2);
        x.tell(0, 0, 0, 100, 0);
        x.tell(1, 0, 0, 200, 0);
        x.tell(0, 1, 0, 300, 0);
        x.tell(0, 0, 1, 400, 0);
        Check.due(0, "all of other keys", () -> x.disagreements(0));
        x.file();
        x.tell(0, 0, 0, 500, 0);
        Check.due(0, "another filing", () -> x.disagreements(0));
        Check.due(0, "another filing", () -> x.disagreements(1));
        x.tell(0, 0, 0, 510, 1);
        Check.due(1, "2 * 10 is more than 1 + 10", () -> x.disagreements(1));
        x.tell(0, 0, 0, 505, 0);
        Check.due(2, "505 is five from 500, but within 11 / 2 of 510", () -> x.disagreements(1));
        Check.due(0, "the first filing stays", () -> x.disagreements(0));
    }

    private static void restated() {
        Dimfacts x = ConceptsTest.withConcepts(1);
        x.tell(0, 0, 0, 100, 0);
        x.tell(0, 0, 0, 200, 0);
        Check.due(0, "nothing is before the first", () -> x.restated(0));
        x.file();
        Check.due(0, "a filing without facts", () -> x.restated(1));
        x.tell(0, 0, 0, 100, 2);
        Check.due(0, "the same value with other decimals", () -> x.restated(1));
        x.tell(0, 0, 0, 150, 1);
        Check.due(1, "the one with less decimals holds", () -> x.restated(1));
        x.tell(0, 0, 0, 100, 0);
        Check.due(0, "and now the old value again", () -> x.restated(1));
        x.file();
        Check.due(0, "nothing told yet", () -> x.restated(2));
        x.file();
        x.tell(0, 0, 0, 7, 4);
        Check.due(1, "the value before holds over a filing without facts", () -> x.restated(3));
        Check.due(0, "the filings before stay", () -> x.restated(1));
        Check.due(0, "the filings before stay", () -> x.restated(2));
    }

    private static void restatedCountsKeys() {
        Dimfacts x = ConceptsTest.withConcepts(12);
        x.tell(0, 0, 0, 1, 0);
        x.tell(11, 9, 3, 1, 0);
        x.file();
        x.tell(0, 0, 0, 2, 0);
        x.tell(0, 0, 0, 3, 0);
        x.tell(11, 9, 3, 2, 0);
        x.tell(5, 5, 2, 2, 0);
        Check.due(2, "two keys; one is told twice, one is new", () -> x.restated(1));
    }

    private static void noSuchFiling() {
        Dimfacts x = new Dimfacts();
        x.file();
        int[] none = {-1, 2, 8, Integer.MIN_VALUE, Integer.MAX_VALUE};
        for (int filing : none) {
            Check.due(Check.BOUNDS, "disagreements(" + filing + ")", () -> x.disagreements(filing));
            Check.due(Check.BOUNDS, "restated(" + filing + ")", () -> x.restated(filing));
        }
    }
}
