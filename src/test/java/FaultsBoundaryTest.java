/** Promises 14 to 18, sentence by sentence: what is still taken, what is refused first, and that this changes nothing. */
public final class FaultsBoundaryTest {
    private static final String AS_TOLD = "Throws `IndexOutOfBoundsException` as told";

    public static void main(String[] args) {
        promise14ReturnsWhetherTheSumIsOff();
        promise14ThrowsIndexOutOfBounds();
        promise15ReturnsWhetherTheMembersAreOff();
        promise15ThrowsIndexOutOfBounds();
        promise16ReturnsWhetherARollRuleIsOff();
        promise16FalseForThePeriod0();
        promise16ThrowsIndexOutOfBounds();
        promise17ReturnsHowManyFaultsThereAre();
        promise17FromNoneToAll();
        promise17ThrowsIndexOutOfBounds();
        promise18ReturnsTheSameOverThePlainList();
        promise18ThrowsIndexOutOfBounds();
        for (int promise = 14; promise <= 18; promise++) {
            Doc.allOf("Promise " + promise);
        }
        Check.end();
    }

    private static void promise14ReturnsWhetherTheSumIsOff() {
        Doc.says("Promise 14", "Returns whether the sum for a key as of a filing is off");
        Dimfacts x = Made.concepts(2);
        x.hang(1, 0, false);
        x.tell(1, 0, 0, 1000, 0);
        Check.due(false, "without a fact of its own", () -> x.isSumOff(0, 0, 0, 0));
        x.tell(0, 0, 0, -999, 1);
        Check.due(false, "one apart of 11", () -> x.isSumOff(0, 0, 0, 0));
        x.file();
        x.tell(0, 0, 0, -995, 1);
        Check.due(false, "five apart: 10 is not more than 11", () -> x.isSumOff(0, 0, 0, 1));
        x.tell(0, 0, 0, -1005, 0);
        Check.due(true, "five apart with less decimals: 10 is more than 2", () -> x.isSumOff(0, 0, 0, 1));
        x.file();
        x.tell(0, 0, 0, -994, 1);
        Check.due(true, "six apart: 12 is more than 11", () -> x.isSumOff(0, 0, 0, 2));
        x.file();
        x.tell(1, 0, 0, 994, 0);
        Check.due(false, "the part is told again", () -> x.isSumOff(0, 0, 0, 3));
        Check.due(true, "as of the filing before", () -> x.isSumOff(0, 0, 0, 2));
        Check.due(false, "as of the first filing", () -> x.isSumOff(0, 0, 0, 0));
        Check.due(false, "of the one that none hangs under", () -> x.isSumOff(1, 0, 0, 2));
        x.unhang(1);
        Check.due(false, "with none under it", () -> x.isSumOff(0, 0, 0, 2));
    }

    private static void promise14ThrowsIndexOutOfBounds() {
        Doc.says("Promise 14", AS_TOLD);
        Check.due(true, "the first of all", () -> Made.corners().isSumOff(0, 0, 0, 0));
        Check.due(true, "the last of all, as of the filing before", () -> Made.corners().isSumOff(11, 9, 3, 6));
        Check.due(false, "the last of all, with doubts of 20000", () -> Made.corners().isSumOff(11, 9, 3, 7));
        Check.due(false, "the only concept", () -> Made.concepts(1).isSumOff(0, 0, 0, 0));
        Edges.refusesConcept("isSumOff", Dimfacts::isSumOff);
        Edges.refusesPeriod("isSumOff", Dimfacts::isSumOff);
        Edges.refusesMember("isSumOff", Dimfacts::isSumOff);
        Edges.refusesFiling("isSumOff", Dimfacts::isSumOff);
    }

    private static void promise15ReturnsWhetherTheMembersAreOff() {
        Doc.says("Promise 15", "Returns whether the members of a concept and a period are off as of a filing");
        for (int left = 0; left < 4; left++) {
            Dimfacts x = Made.concepts(12);
            for (int member = 0; member < 4; member++) {
                if (member != left) {
                    x.tell(11, 9, member, 1000, 0);
                }
            }
            x.file();
            int late = left;
            Check.due(false, "three of four hold", () -> x.areMembersOff(11, 9, 1));
            x.tell(11, 9, late, late == 0 ? 3002 : -1002, 0);
            Check.due(false, "all four, 2 apart: 4 is not more than 4", () -> x.areMembersOff(11, 9, 1));
            x.file();
            x.tell(11, 9, late, late == 0 ? 2997 : -997, 0);
            Check.due(true, "3 apart: 6 is more than 4", () -> x.areMembersOff(11, 9, 2));
            Check.due(false, "as of the filing before", () -> x.areMembersOff(11, 9, 1));
            Check.due(false, "as of the first, where three hold", () -> x.areMembersOff(11, 9, 0));
            Check.due(false, "the concept before", () -> x.areMembersOff(10, 9, 2));
            Check.due(false, "the period before", () -> x.areMembersOff(11, 8, 2));
        }
    }

    private static void promise15ThrowsIndexOutOfBounds() {
        Doc.says("Promise 15", AS_TOLD);
        Check.due(false, "the first of all", () -> Made.corners().areMembersOff(0, 0, 0));
        Check.due(false, "the last of all", () -> Made.corners().areMembersOff(11, 9, 7));
        Check.due(true, "the last of a full object", () -> Made.full().areMembersOff(11, 9, 7));
        Check.due(false, "before its last member is told", () -> Made.full().areMembersOff(11, 9, 2));
        Check.due(true, "from there on", () -> Made.full().areMembersOff(11, 9, 3));
        Edges.refusesConcept("areMembersOff", (x, c, p, m, f) -> x.areMembersOff(c, p, f));
        Edges.refusesPeriod("areMembersOff", (x, c, p, m, f) -> x.areMembersOff(c, p, f));
        Edges.refusesFiling("areMembersOff", (x, c, p, m, f) -> x.areMembersOff(c, p, f));
    }

    private static void promise16ReturnsWhetherARollRuleIsOff() {
        Doc.says("Promise 16", "Returns whether a roll rule is off for a period and a member as of a filing; false for the period 0");
        for (int i = 1; i < 10; i++) {
            int period = i;
            dueRoll(period, new int[][] {{11, period - 1, 1000}, {11, period, 1006}, {0, period, 5}});
            dueRoll(period, new int[][] {{11, period, 1006}, {0, period, 5}, {11, period - 1, 1000}});
            dueRoll(period, new int[][] {{0, period, 5}, {11, period - 1, 1000}, {11, period, 1006}});
        }
    }

    /** Off only when all three of them hold; 1 apart is not more than the doubts of 3, 2 apart is. */
    private static void dueRoll(int period, int[][] facts) {
        Dimfacts x = Made.rules(0);
        x.addRoll(1, 0);
        x.addRoll(11, 0);
        for (int[] fact : facts) {
            Check.due(false, "not all three hold in " + period, () -> x.isRollOff(1, period, 3, 0));
            x.tell(fact[0], fact[1], 3, fact[2] + (fact[0] == 11 && fact[1] == period ? 1 : 0), 0);
        }
        Check.due(true, "2 apart in " + period, () -> x.isRollOff(1, period, 3, 0));
        Check.due(false, "for the member before", () -> x.isRollOff(1, period, 2, 0));
        Check.due(false, "by the rule before", () -> x.isRollOff(0, period, 3, 0));
        Check.due(false, "in the period before", () -> x.isRollOff(1, period - 1, 3, 0));
        x.file();
        x.tell(11, period, 3, 1006, 0);
        Check.due(false, "1 apart in " + period, () -> x.isRollOff(1, period, 3, 1));
        Check.due(true, "as of the filing before", () -> x.isRollOff(1, period, 3, 0));
    }

    private static void promise16FalseForThePeriod0() {
        Doc.says("Promise 16", "Returns whether a roll rule is off for a period and a member as of a filing; false for the period 0");
        Dimfacts x = Made.concepts(3);
        x.addRoll(1, 2);
        for (int concept = 0; concept < 3; concept++) {
            for (int member = 0; member < 4; member++) {
                x.tell(concept, 0, member, 1000 * (concept + 1), 0);
                x.tell(concept, 9, member, 500000, 0);
            }
        }
        for (int member = 0; member < 4; member++) {
            int of = member;
            Check.due(false, "the period 0, the member " + of, () -> x.isRollOff(0, 0, of, 0));
        }
        Check.due(0, "no fault of it", () -> x.faults(0) - membersOff(x));
        x.tell(1, 1, 0, 5000, 0);
        x.tell(2, 1, 0, 5000, 0);
        Check.due(true, "the period 1 is the first", () -> x.isRollOff(0, 1, 0, 0));
    }

    private static int membersOff(Dimfacts x) {
        int count = 0;
        for (int concept = 0; concept < 3; concept++) {
            for (int period = 0; period < 10; period++) {
                count += x.areMembersOff(concept, period, 0) ? 1 : 0;
            }
        }
        return count;
    }

    private static void promise16ThrowsIndexOutOfBounds() {
        Doc.says("Promise 16", AS_TOLD);
        for (int rule = 0; rule < 5; rule++) {
            int there = rule;
            Check.due(false, "of five rules", () -> Made.rules(5).isRollOff(there, 9, 3, 0));
        }
        Check.due(false, "the first of all", () -> Made.full().isRollOff(0, 0, 0, 0));
        Check.due(true, "the last of all", () -> Made.full().isRollOff(4, 9, 3, 7));
        Edges.refuses("no rule", () -> Made.concepts(12), 0, (x, r) -> x.isRollOff(r, 9, 3, 0));
        Edges.refuses("one rule", Made::some, 1, (x, r) -> x.isRollOff(r, 1, 0, 1));
        Edges.refuses("one rule, in the period 0", Made::some, 1, (x, r) -> x.isRollOff(r, 0, 0, 1));
        Edges.refuses("five rules", Made::full, 5, (x, r) -> x.isRollOff(r, 9, 3, 7));
        Edges.refuses("periods", Made::full, 10, (x, p) -> x.isRollOff(4, p, 3, 7));
        Edges.refuses("members", Made::full, 4, (x, m) -> x.isRollOff(4, 9, m, 7));
        Edges.refuses("members in the period 0", Made::full, 4, (x, m) -> x.isRollOff(4, 0, m, 7));
        Edges.refuses("filings of one", () -> Made.rules(1), 1, (x, f) -> x.isRollOff(0, 9, 3, f));
        Edges.refuses("filings of eight", Made::full, 8, (x, f) -> x.isRollOff(4, 9, 3, f));
        Edges.refuses("filings in the period 0", Made::full, 8, (x, f) -> x.isRollOff(4, 0, 3, f));
    }

    private static void promise17ReturnsHowManyFaultsThereAre() {
        Doc.says("Promise 17", "Returns how many faults there are as of a filing: all sums that are off, members of a concept and a period "
            + "that are off, and periods and members for which a roll rule is off, by facts that are kept by their keys");
        dueEachKind(Dimfacts::faults);
        for (int i = 0; i < 8; i++) {
            int filing = i;
            Check.due(counted(Made.full(), filing), "of a full object, counted one by one", () -> Made.full().faults(filing));
            Check.due(counted(Made.corners(), filing), "of the corners, counted one by one", () -> Made.corners().faults(filing));
        }
    }

    private static void promise17FromNoneToAll() {
        fromNoneToAll(Dimfacts::faults);
    }

    private static void promise17ThrowsIndexOutOfBounds() {
        Doc.says("Promise 17", "Throws `IndexOutOfBoundsException` if there is no such filing");
        dueAtTheEdges(Dimfacts::faults);
        Edges.refuses("of a new object", Made::empty, 1, Dimfacts::faults);
        Edges.refusesFiling("faults", Dimfacts::faults);
    }

    private static void promise18ReturnsTheSameOverThePlainList() {
        Doc.says("Promise 18", "Returns the same, found over the plain list of all facts");
        dueEachKind(Dimfacts::faultsByList);
        for (int i = 0; i < 8; i++) {
            int filing = i;
            Check.due(Made.full().faults(filing), "of a full object", () -> Made.full().faultsByList(filing));
            Check.due(Made.corners().faults(filing), "of the corners", () -> Made.corners().faultsByList(filing));
        }
        fromNoneToAll(Dimfacts::faultsByList);
    }

    private static void promise18ThrowsIndexOutOfBounds() {
        Doc.says("Promise 18", "Throws `IndexOutOfBoundsException` if there is no such filing");
        dueAtTheEdges(Dimfacts::faultsByList);
        Edges.refuses("of a new object", Made::empty, 1, Dimfacts::faultsByList);
        Edges.refusesFiling("faultsByList", Dimfacts::faultsByList);
    }

    /** How often the three questions are answered by true, for all that the object has facts of. */
    private static int counted(Dimfacts x, int filing) {
        int count = 0;
        for (int concept : new int[] {0, 1, 2, 9, 10, 11}) {
            for (int period : new int[] {0, 8, 9}) {
                count += x.areMembersOff(concept, period, filing) ? 1 : 0;
                for (int member = 0; member < 4; member++) {
                    count += x.isSumOff(concept, period, member, filing) ? 1 : 0;
                }
            }
        }
        for (int rule = 0; rule < 5; rule++) {
            for (int period = 1; period < 10; period++) {
                for (int member = 0; member < 4; member++) {
                    count += x.isRollOff(rule, period, member, filing) ? 1 : 0;
                }
            }
        }
        return count;
    }

    private static void dueEachKind(Edges.NumberCall faults) {
        Dimfacts x = Made.concepts(3);
        x.addRoll(2, 1);
        x.hang(1, 0, true);
        Check.due(0, "no facts", () -> faults.on(x, 0));
        x.tell(0, 0, 0, 100, 0);
        x.tell(1, 0, 0, 99, 0);
        x.tell(2, 8, 3, 100, 0);
        x.tell(1, 9, 3, 10, 0);
        x.tell(2, 9, 3, 111, 0);
        for (int member = 0; member < 4; member++) {
            x.tell(2, 5, member, member == 0 ? 302 : 100, 0);
        }
        Check.due(0, "a sum, a roll and members, each by the most that is not off", () -> faults.on(x, 0));
        x.file();
        x.tell(1, 0, 0, 98, 0);
        Check.due(1, "one more for the sum", () -> faults.on(x, 1));
        x.file();
        x.tell(2, 9, 3, 112, 0);
        Check.due(2, "one more for the roll", () -> faults.on(x, 2));
        x.file();
        x.tell(2, 5, 0, 303, 0);
        Check.due(3, "one more for the members", () -> faults.on(x, 3));
        for (int i = 0; i < 3; i++) {
            int filing = i;
            Check.due(filing, "as of the filing " + filing, () -> faults.on(x, filing));
        }
        x.unhang(1);
        Check.due(2, "without the sum", () -> faults.on(x, 3));
    }

    /** All the sums of two concepts, in all periods and members, and the members of them, until the object is full. */
    private static void fromNoneToAll(Edges.NumberCall faults) {
        Dimfacts x = Made.concepts(12);
        x.hang(0, 11, true);
        int sums = 0;
        for (int period = 0; period < 10; period++) {
            for (int member = 0; member < 4; member++) {
                x.tell(0, period, member, 1000, 0);
                x.tell(11, period, member, 5000, 0);
                sums++;
                int due = sums + sums / 4 * 2;
                Check.due(due, sums + " sums, and the members of each four", () -> faults.on(x, 0));
            }
        }
        Check.due(Check.STATE, "then it is full", () -> x.tell(0, 0, 0, 0, 0));
        for (int rule = 0; rule < 5; rule++) {
            x.addRoll(rule, rule + 1);
        }
        Check.due(60, "with rules that have no facts", () -> faults.on(x, 0));
    }

    private static void dueAtTheEdges(Edges.NumberCall faults) {
        Check.due(0, "the only filing, of a new object", () -> faults.on(Made.empty(), 0));
        Check.due(8, "the first", () -> faults.on(Made.corners(), 0));
        Check.due(8, "the one before the last", () -> faults.on(Made.corners(), 6));
        Check.due(4, "the last", () -> faults.on(Made.corners(), 7));
    }
}
