/** Promises 10 to 13: value, doubt, sum, derived. */
public final class ValuesTest {
    public static void main(String[] args) {
        whatHolds();
        doubts();
        sum();
        sumOfAll();
        derived();
        derivedNeedsAll();
        derivedDeep();
        derivedWeights();
        derivedOfOneKeyOnly();
        noSuchKey();
        Check.end();
    }

    private static void whatHolds() {
        Dimfacts x = ConceptsTest.withConcepts(1);
        x.tell(0, 3, 1, 10, 2);
        x.tell(0, 3, 1, 20, 2);
        Check.due(10, "the first of equal decimals", () -> x.value(0, 3, 1, 0));
        x.tell(0, 3, 1, 30, 1);
        Check.due(30, "the least decimals", () -> x.value(0, 3, 1, 0));
        x.tell(0, 3, 1, 40, 3);
        x.tell(0, 3, 1, 50, 1);
        Check.due(30, "later with more or equal decimals", () -> x.value(0, 3, 1, 0));
        x.file();
        Check.due(30, "as of a filing without one", () -> x.value(0, 3, 1, 1));
        x.tell(0, 3, 1, 60, 4);
        Check.due(60, "the latest filing goes first, with any decimals", () -> x.value(0, 3, 1, 1));
        Check.due(10000, "its doubt", () -> x.doubt(0, 3, 1, 1));
        Check.due(30, "as of the filing before", () -> x.value(0, 3, 1, 0));
        Check.due(10, "its doubt", () -> x.doubt(0, 3, 1, 0));
        Check.due(Check.MISSING, "another period", () -> x.value(0, 2, 1, 1));
        Check.due(Check.MISSING, "another member", () -> x.value(0, 3, 0, 1));
    }

    private static void doubts() {
        Dimfacts x = ConceptsTest.withConcepts(1);
        int want = 1;
        for (int decimals = 0; decimals <= 4; decimals++) {
            int period = decimals;
            x.tell(0, period, 0, 5, decimals);
            Check.due(want, "doubt of decimals " + decimals, () -> x.doubt(0, period, 0, 0));
            want *= 10;
        }
        Check.due(Check.MISSING, "doubt of no fact", () -> x.doubt(0, 9, 0, 0));
    }

    private static void sum() {
        Dimfacts x = ConceptsTest.withConcepts(4);
        Check.due(0, "none hangs under it", () -> x.sum(0, 0, 0, 0));
        x.hang(1, 0, true);
        x.hang(2, 0, false);
        x.hang(3, 2, true);
        Check.due(0, "no facts", () -> x.sum(0, 0, 0, 0));
        x.tell(0, 0, 0, 1000, 0);
        Check.due(0, "its own fact is not added", () -> x.sum(0, 0, 0, 0));
        x.tell(3, 0, 0, 5, 0);
        Check.due(0, "what hangs over others is not added", () -> x.sum(0, 0, 0, 0));
        x.tell(1, 0, 0, 40, 0);
        Check.due(40, "one of two", () -> x.sum(0, 0, 0, 0));
        x.tell(2, 0, 0, 15, 0);
        Check.due(25, "40 - 15", () -> x.sum(0, 0, 0, 0));
        Check.due(0, "another period", () -> x.sum(0, 1, 0, 0));
        Check.due(0, "another member", () -> x.sum(0, 0, 1, 0));
        x.file();
        x.tell(1, 0, 0, 50, 4);
        Check.due(35, "the filing's value and an older one", () -> x.sum(0, 0, 0, 1));
        Check.due(25, "as of the filing before", () -> x.sum(0, 0, 0, 0));
    }

    private static void sumOfAll() {
        Dimfacts x = ConceptsTest.withConcepts(12);
        for (int i = 1; i < 12; i++) {
            x.hang(i, 0, false);
            x.tell(i, 4, 2, 1000000, 0);
        }
        Check.due(-11000000, "all eleven", () -> x.sum(0, 4, 2, 0));
        Check.due(-11000000, "all eleven", () -> x.derived(0, 4, 2, 0));
    }

    private static void derived() {
        Dimfacts x = ConceptsTest.withConcepts(5);
        Check.due(Check.MISSING, "none hangs under it", () -> x.derived(0, 0, 0, 0));
        x.hang(1, 0, true);
        x.hang(2, 0, false);
        x.hang(3, 2, true);
        x.hang(4, 2, false);
        x.tell(1, 0, 0, 100, 0);
        x.tell(3, 0, 0, 30, 0);
        Check.due(Check.MISSING, "4 has none", () -> x.derived(0, 0, 0, 0));
        x.tell(4, 0, 0, 8, 0);
        Check.due(22, "30 - 8", () -> x.derived(2, 0, 0, 0));
        Check.due(78, "100 - (30 - 8)", () -> x.derived(0, 0, 0, 0));
        Check.due(100, "the sum takes only those that hold", () -> x.sum(0, 0, 0, 0));
        Check.due(Check.MISSING, "the derived one does not hold", () -> x.value(2, 0, 0, 0));
        x.tell(2, 0, 0, 25, 0);
        Check.due(75, "what holds goes before what is derived", () -> x.derived(0, 0, 0, 0));
        x.file();
        x.tell(0, 0, 0, 1, 4);
        Check.due(1, "its own value", () -> x.derived(0, 0, 0, 1));
        Check.due(75, "as of the filing before", () -> x.derived(0, 0, 0, 0));
    }

    private static void derivedNeedsAll() {
        Dimfacts x = ConceptsTest.withConcepts(4);
        x.hang(1, 0, true);
        x.hang(2, 0, true);
        x.hang(3, 1, true);
        x.tell(1, 0, 0, 10, 0);
        x.tell(2, 0, 0, 20, 0);
        Check.due(30, "3 is not asked, as 1 holds", () -> x.derived(0, 0, 0, 0));
        Check.due(Check.MISSING, "3 itself", () -> x.derived(3, 0, 0, 0));
        x.hang(3, 0, true);
        Check.due(Check.MISSING, "3 is asked, and has none", () -> x.derived(0, 0, 0, 0));
        Check.due(30, "the sum leaves 3 out", () -> x.sum(0, 0, 0, 0));
        x.unhang(3);
        Check.due(30, "without 3", () -> x.derived(0, 0, 0, 0));
        x.tell(0, 1, 0, 5, 0);
        Check.due(Check.MISSING, "what hangs over a part does not help it", () -> x.derived(1, 1, 0, 0));
    }

    private static void derivedDeep() {
        Dimfacts x = ConceptsTest.withConcepts(12);
        for (int i = 0; i < 11; i++) {
            x.hang(i, i + 1, i % 2 == 0);
        }
        Check.due(Check.MISSING, "a chain without facts", () -> x.derived(11, 9, 3, 0));
        x.tell(0, 9, 3, 77, 0);
        Check.due(77, "one step", () -> x.derived(1, 9, 3, 0));
        Check.due(-77, "two steps, one minus", () -> x.derived(2, 9, 3, 0));
        Check.due(-77, "three steps, one minus", () -> x.derived(3, 9, 3, 0));
        Check.due(77, "four steps, two minus", () -> x.derived(4, 9, 3, 0));
        Check.due(-77, "eleven steps, five minus", () -> x.derived(11, 9, 3, 0));
    }

    private static void derivedWeights() {
        Dimfacts x = ConceptsTest.withConcepts(7);
        x.hang(1, 0, false);
        x.hang(2, 0, true);
        x.hang(3, 1, false);
        x.hang(4, 1, true);
        x.hang(5, 2, false);
        x.hang(6, 2, true);
        for (int i = 3; i < 7; i++) {
            x.tell(i, 0, 0, 1 << 2 * i, 0);
        }
        Check.due(64 - 256 - 1024 + 4096, "minus of minus is plus", () -> x.derived(0, 0, 0, 0));
    }

    private static void derivedOfOneKeyOnly() {
        Dimfacts x = ConceptsTest.withConcepts(3);
        x.hang(1, 0, true);
        x.hang(2, 0, true);
        x.tell(1, 0, 0, 10, 0);
        x.tell(2, 1, 0, 20, 0);
        x.tell(2, 0, 1, 30, 0);
        Check.due(Check.MISSING, "2 only in another period and member", () -> x.derived(0, 0, 0, 0));
        x.file();
        x.tell(2, 0, 0, 40, 0);
        Check.due(Check.MISSING, "2 only in a later filing", () -> x.derived(0, 0, 0, 0));
        Check.due(50, "as of the later filing", () -> x.derived(0, 0, 0, 1));
    }

    private static void noSuchKey() {
        Dimfacts x = ConceptsTest.withConcepts(1);
        x.tell(0, 0, 0, 1, 0);
        int[][] none = {{-1, 0, 0, 0}, {1, 0, 0, 0}, {0, -1, 0, 0}, {0, 10, 0, 0}, {0, 0, -1, 0}, {0, 0, 4, 0}, {0, 0, 0, -1},
            {0, 0, 0, 1}, {0, 0, 0, 8}, {Integer.MAX_VALUE, 0, 0, 0}, {0, Integer.MIN_VALUE, 0, 0}, {12, 9, 3, 0}};
        for (int[] k : none) {
            String what = java.util.Arrays.toString(k);
            Check.due(Check.BOUNDS, "value" + what, () -> x.value(k[0], k[1], k[2], k[3]));
            Check.due(Check.BOUNDS, "doubt" + what, () -> x.doubt(k[0], k[1], k[2], k[3]));
            Check.due(Check.BOUNDS, "sum" + what, () -> x.sum(k[0], k[1], k[2], k[3]));
            Check.due(Check.BOUNDS, "derived" + what, () -> x.derived(k[0], k[1], k[2], k[3]));
        }
    }
}
