/** Promises 14 to 18: isSumOff, areMembersOff, isRollOff, faults, faultsByList. */
public final class FaultsTest {
    public static void main(String[] args) {
        isSumOff();
        isSumOffNeedsFacts();
        areMembersOff();
        areMembersOffNeedsAll();
        isRollOff();
        isRollOffNeedsAll();
        isRollOffPeriods();
        faultsCountEachKind();
        faultsCountEachKey();
        faultsCountEachRule();
        faultsOfKeysToldTwice();
        faultsOfAFullObject();
        noSuchThing();
        Check.end();
    }

    private static void dueFaults(int want, String what, Dimfacts x, int filing) {
        Check.due(want, what + ": faults", () -> x.faults(filing));
        Check.due(want, what + ": faultsByList", () -> x.faultsByList(filing));
    }

    private static void isSumOff() {
        Dimfacts x = ConceptsTest.withConcepts(3);
        x.hang(1, 0, true);
        x.hang(2, 0, false);
        x.tell(1, 0, 0, 100, 0);
        x.tell(2, 0, 0, 30, 1);
        x.tell(0, 0, 0, 76, 0);
        Check.due(false, "2 * 6 is not more than 1 + 10 + 1", () -> x.isSumOff(0, 0, 0, 0));
        x.file();
        x.tell(0, 0, 0, 77, 0);
        Check.due(true, "2 * 7 is more", () -> x.isSumOff(0, 0, 0, 1));
        Check.due(false, "as of the filing before", () -> x.isSumOff(0, 0, 0, 0));
        x.file();
        x.tell(0, 0, 0, 64, 0);
        Check.due(false, "6 below", () -> x.isSumOff(0, 0, 0, 2));
        x.file();
        x.tell(0, 0, 0, 63, 0);
        Check.due(true, "7 below", () -> x.isSumOff(0, 0, 0, 3));
        x.hang(2, 0, true);
        x.file();
        x.tell(0, 0, 0, 130, 0);
        Check.due(false, "with the other weight", () -> x.isSumOff(0, 0, 0, 4));
        Check.due(true, "the weight counts for all filings", () -> x.isSumOff(0, 0, 0, 0));
    }

    private static void isSumOffNeedsFacts() {
        Dimfacts x = ConceptsTest.withConcepts(3);
        x.tell(0, 0, 0, 1000, 0);
        Check.due(false, "none hangs under it", () -> x.isSumOff(0, 0, 0, 0));
        x.hang(1, 0, true);
        x.hang(2, 0, true);
        Check.due(false, "those that hang have no fact", () -> x.isSumOff(0, 0, 0, 0));
        x.tell(2, 0, 0, 0, 0);
        Check.due(true, "one is enough, even a 0", () -> x.isSumOff(0, 0, 0, 0));
        x.tell(1, 1, 0, 5, 0);
        Check.due(false, "no fact of its own", () -> x.isSumOff(0, 1, 0, 0));
        x.unhang(2);
        Check.due(false, "only under it", () -> x.isSumOff(0, 0, 0, 0));
        x.hang(2, 1, true);
        Check.due(false, "only directly under it", () -> x.isSumOff(0, 0, 0, 0));
    }

    private static void areMembersOff() {
        Dimfacts x = ConceptsTest.withConcepts(1);
        x.tell(0, 5, 0, 600, 0);
        x.tell(0, 5, 1, 100, 0);
        x.tell(0, 5, 2, 200, 0);
        x.tell(0, 5, 3, 302, 0);
        Check.due(false, "2 * 2 is not more than 4", () -> x.areMembersOff(0, 5, 0));
        x.file();
        x.tell(0, 5, 3, 303, 0);
        Check.due(true, "2 * 3 is more", () -> x.areMembersOff(0, 5, 1));
        Check.due(false, "as of the filing before", () -> x.areMembersOff(0, 5, 0));
        x.file();
        x.tell(0, 5, 3, 297, 0);
        Check.due(true, "3 below", () -> x.areMembersOff(0, 5, 2));
        x.file();
        x.tell(0, 5, 1, 100, 1);
        Check.due(false, "2 * 3 is not more than 13", () -> x.areMembersOff(0, 5, 3));
        dueFaults(1, "members are one fault", x, 1);
    }

    private static void areMembersOffNeedsAll() {
        for (int left = 0; left < 4; left++) {
            Dimfacts x = ConceptsTest.withConcepts(2);
            for (int member = 0; member < 4; member++) {
                if (member != left) {
                    x.tell(1, 9, member, 1000 * (member + 1), 0);
                }
            }
            Check.due(false, "without the member " + left, () -> x.areMembersOff(1, 9, 0));
            dueFaults(0, "without the member " + left, x, 0);
            x.tell(1, 9, left, 500000, 0);
            Check.due(true, "with it", () -> x.areMembersOff(1, 9, 0));
            Check.due(false, "another concept", () -> x.areMembersOff(0, 9, 0));
            Check.due(false, "another period", () -> x.areMembersOff(1, 8, 0));
        }
    }

    private static void isRollOff() {
        Dimfacts x = ConceptsTest.withConcepts(2);
        x.addRoll(1, 0);
        x.tell(1, 3, 2, 100, 1);
        x.tell(0, 4, 2, 50, 0);
        x.tell(1, 4, 2, 156, 0);
        Check.due(false, "2 * 6 is not more than 10 + 1 + 1", () -> x.isRollOff(0, 4, 2, 0));
        x.file();
        x.tell(1, 4, 2, 157, 0);
        Check.due(true, "2 * 7 is more", () -> x.isRollOff(0, 4, 2, 1));
        Check.due(false, "as of the filing before", () -> x.isRollOff(0, 4, 2, 0));
        x.file();
        x.tell(0, 4, 2, 64, 0);
        Check.due(true, "7 below", () -> x.isRollOff(0, 4, 2, 2));
        x.file();
        x.tell(0, 4, 2, 63, 0);
        Check.due(false, "6 below", () -> x.isRollOff(0, 4, 2, 3));
        Check.due(false, "another member", () -> x.isRollOff(0, 4, 0, 1));
        dueFaults(1, "one roll", x, 1);
    }

    private static void isRollOffNeedsAll() {
        int[][] keys = {{0, 5}, {0, 6}, {1, 6}};
        for (int left = 0; left < 3; left++) {
            Dimfacts x = ConceptsTest.withConcepts(2);
            x.addRoll(0, 1);
            x.tell(1, 5, 1, 9, 0);
            for (int i = 0; i < 3; i++) {
                if (i != left) {
                    x.tell(keys[i][0], keys[i][1], 1, 10000 * (i + 1), 0);
                }
            }
            Check.due(false, "without the fact " + left, () -> x.isRollOff(0, 6, 1, 0));
            dueFaults(0, "without the fact " + left, x, 0);
            x.tell(keys[left][0], keys[left][1], 1, 777777, 0);
            Check.due(true, "with it", () -> x.isRollOff(0, 6, 1, 0));
            dueFaults(1, "with it", x, 0);
        }
    }

    private static void isRollOffPeriods() {
        Dimfacts x = ConceptsTest.withConcepts(2);
        x.addRoll(0, 1);
        for (int period = 0; period < 10; period++) {
            x.tell(0, period, 3, 1000 * period * period, 0);
            x.tell(1, period, 3, 0, 0);
        }
        Check.due(false, "the period 0", () -> x.isRollOff(0, 0, 3, 0));
        for (int period = 1; period < 10; period++) {
            int at = period;
            Check.due(true, "the period " + period, () -> x.isRollOff(0, at, 3, 0));
        }
        dueFaults(9, "nine periods", x, 0);
    }

    private static void faultsCountEachKind() {
        Dimfacts x = ConceptsTest.withConcepts(2);
        x.hang(1, 0, true);
        x.addRoll(0, 1);
        dueFaults(0, "without facts", x, 0);
        x.tell(0, 1, 0, 1000, 0);
        x.tell(1, 1, 0, 500, 0);
        dueFaults(1, "a sum", x, 0);
        x.tell(0, 0, 0, 100, 0);
        dueFaults(2, "and a roll", x, 0);
        for (int member = 1; member < 4; member++) {
            x.tell(0, 1, member, 5, 0);
        }
        dueFaults(3, "and members", x, 0);
        x.unhang(1);
        dueFaults(2, "without the sum", x, 0);
        x.file();
        dueFaults(2, "the next filing", x, 1);
        x.tell(0, 1, 0, 15, 0);
        x.tell(1, 1, 0, -85, 0);
        dueFaults(0, "all are mended", x, 1);
        dueFaults(2, "but not as of the filing before", x, 0);
    }

    private static void faultsCountEachKey() {
        Dimfacts x = ConceptsTest.withConcepts(12);
        x.hang(3, 11, true);
        int want = 0;
        for (int period = 0; period < 10; period++) {
            for (int member = 0; member < 4; member += 3) {
                x.tell(11, period, member, 400, 0);
                x.tell(3, period, member, 100, 0);
                want++;
                dueFaults(want, "sums of " + want + " keys", x, 0);
            }
        }
    }

    private static void faultsCountEachRule() {
        Dimfacts x = ConceptsTest.withConcepts(3);
        x.addRoll(0, 1);
        x.tell(0, 0, 0, 0, 0);
        x.tell(0, 1, 0, 1000, 0);
        x.tell(1, 1, 0, 0, 0);
        x.tell(2, 1, 0, 0, 0);
        dueFaults(1, "one rule", x, 0);
        x.addRoll(0, 2);
        dueFaults(2, "two rules of one stock", x, 0);
        x.addRoll(0, 2);
        dueFaults(3, "the same rule twice", x, 0);
        x.addRoll(1, 0);
        dueFaults(3, "a rule that has no facts", x, 0);
    }

    private static void faultsOfKeysToldTwice() {
        Dimfacts x = ConceptsTest.withConcepts(2);
        x.hang(1, 0, true);
        x.tell(0, 0, 0, 500, 3);
        x.tell(0, 0, 0, 500, 0);
        x.tell(0, 0, 0, 500, 0);
        x.tell(1, 0, 0, 100, 0);
        x.tell(1, 0, 0, 100, 0);
        dueFaults(1, "one key is one fault", x, 0);
        x.file();
        x.tell(0, 0, 0, 500, 2);
        x.tell(0, 0, 0, 500, 2);
        dueFaults(1, "over two filings too", x, 1);
        x.tell(0, 0, 0, 100, 1);
        dueFaults(0, "the one with the least decimals counts", x, 1);
        dueFaults(1, "the filing before stays", x, 0);
    }

    private static void faultsOfAFullObject() {
        Dimfacts x = ConceptsTest.withConcepts(12);
        x.hang(11, 10, true);
        for (int rule = 0; rule < 5; rule++) {
            x.addRoll(10, 11);
        }
        for (int period = 0; period < 10; period++) {
            for (int member = 0; member < 4; member++) {
                x.tell(10, period, member, 1000 * period + 100000, 0);
                x.tell(11, period, member, 50000, 0);
            }
        }
        Check.due(Check.STATE, "it is full", () -> x.tell(0, 0, 0, 0, 0));
        dueFaults(40 + 20 + 5 * 9 * 4, "all sums, all members, all rolls", x, 0);
        Check.due(0, "disagreements", () -> x.disagreements(0));
        Check.due(0, "restated", () -> x.restated(0));
    }

    private static void noSuchThing() {
        Dimfacts x = ConceptsTest.withConcepts(2);
        x.addRoll(0, 1);
        x.file();
        int[] noFiling = {-1, 2, 8, Integer.MIN_VALUE, Integer.MAX_VALUE};
        for (int filing : noFiling) {
            dueNoFiling(x, filing);
        }
        int[][] noKey = {{-1, 1, 0}, {2, 1, 0}, {0, -1, 0}, {0, 10, 0}, {0, 1, -1}, {0, 1, 4}, {0, 0, 4}, {12, 9, 3}};
        for (int[] k : noKey) {
            String what = java.util.Arrays.toString(k);
            Check.due(Check.BOUNDS, "isSumOff" + what, () -> x.isSumOff(k[0], k[1], k[2], 0));
            Check.due(Check.BOUNDS, "isRollOff" + what, () -> x.isRollOff(k[0], k[1], k[2], 0));
        }
        int[][] noGroup = {{-1, 0}, {2, 0}, {0, -1}, {0, 10}, {12, 9}};
        for (int[] k : noGroup) {
            String what = java.util.Arrays.toString(k);
            Check.due(Check.BOUNDS, "areMembersOff" + what, () -> x.areMembersOff(k[0], k[1], 0));
        }
        Check.due(Check.BOUNDS, "a concept that is no rule", () -> x.isRollOff(1, 1, 0, 0));
        Check.due(Check.BOUNDS, "no such rule, in the period 0", () -> x.isRollOff(1, 0, 0, 0));
    }

    private static void dueNoFiling(Dimfacts x, int filing) {
        Check.due(Check.BOUNDS, "isSumOff filing " + filing, () -> x.isSumOff(0, 0, 0, filing));
        Check.due(Check.BOUNDS, "areMembersOff filing " + filing, () -> x.areMembersOff(0, 0, filing));
        Check.due(Check.BOUNDS, "isRollOff filing " + filing, () -> x.isRollOff(0, 1, 0, filing));
        Check.due(Check.BOUNDS, "isRollOff filing, period 0 " + filing, () -> x.isRollOff(0, 0, 0, filing));
        Check.due(Check.BOUNDS, "faults filing " + filing, () -> x.faults(filing));
        Check.due(Check.BOUNDS, "faultsByList filing " + filing, () -> x.faultsByList(filing));
    }
}
