/**
 * A checker of filed accounts: concepts that hang under others with weights, facts by concept,
 * period and member with decimals, filings that restate earlier ones, and the faults in them.
 */
public final class Dimfacts {

    /** There is none. */
    public static final int NONE = -1;

    private static final int MAX_CONCEPTS = 12;
    private static final int MAX_RULES = 5;
    private static final int MAX_FILINGS = 8;
    private static final int MAX_FACTS = 80;
    private static final int MAX_VALUE = 1000000;
    private static final int MAX_DECIMALS = 4;
    private static final int PERIODS = 10;
    private static final int MEMBERS = 4;
    private static final int WHOLE = 0;
    private static final int KEYS_OF_CONCEPT = PERIODS * MEMBERS;
    private static final int KEYS = MAX_CONCEPTS * KEYS_OF_CONCEPT;

    /** The doubts by decimals. */
    private static final int[] DOUBTS = {1, 10, 100, 1000, 10000};

    private final int[] parents = new int[MAX_CONCEPTS];
    private final int[] weights = new int[MAX_CONCEPTS];
    private int conceptCount;

    private final int[] stocks = new int[MAX_RULES];
    private final int[] flows = new int[MAX_RULES];
    private int ruleCount;

    /** The latest filing, the only one that facts are told in. */
    private int latest;

    private final ListedFacts listed = new ListedFacts();
    private final KeyedFacts keyed = new KeyedFacts();

    /** Rows of a derivation, made once so that a call makes none. */
    private final int[] reached = new int[MAX_CONCEPTS];
    private final int[] signs = new int[MAX_CONCEPTS];

    public Dimfacts() {
    }

    // ---- concepts and rules

    public int addConcept() throws IllegalStateException {
        if (conceptCount >= MAX_CONCEPTS) {
            throw new IllegalStateException("there are 12 concepts");
        }
        int concept = conceptCount;
        parents[concept] = NONE;
        conceptCount++;
        return concept;
    }

    public int hang(int concept, int parent, boolean isPlus) throws IndexOutOfBoundsException, IllegalArgumentException {
        checkConcept(concept);
        checkConcept(parent);
        if (isAtOrUnder(parent, concept)) {
            throw new IllegalArgumentException("the parent is the concept or hangs under it");
        }
        int old = parents[concept];
        parents[concept] = parent;
        weights[concept] = isPlus ? 1 : -1;
        return old;
    }

    public int unhang(int concept) throws IndexOutOfBoundsException {
        checkConcept(concept);
        int old = parents[concept];
        parents[concept] = NONE;
        return old;
    }

    public int addRoll(int stock, int flow) throws IndexOutOfBoundsException, IllegalArgumentException, IllegalStateException {
        checkConcept(stock);
        checkConcept(flow);
        if (stock == flow) {
            throw new IllegalArgumentException("stock and flow are the same");
        }
        if (ruleCount >= MAX_RULES) {
            throw new IllegalStateException("there are 5 rules");
        }
        int rule = ruleCount;
        stocks[rule] = stock;
        flows[rule] = flow;
        ruleCount++;
        return rule;
    }

    // ---- filings and facts

    public int file() throws IllegalStateException {
        if (latest >= MAX_FILINGS - 1) {
            throw new IllegalStateException("there are 8 filings");
        }
        latest++;
        return latest;
    }

    public int tell(int concept, int period, int member, int value, int decimals) throws IndexOutOfBoundsException, IllegalArgumentException, IllegalStateException {
        checkKey(concept, period, member);
        if (value < -MAX_VALUE || value > MAX_VALUE) {
            throw new IllegalArgumentException("the value is out of range");
        }
        if (decimals < 0 || decimals > MAX_DECIMALS) {
            throw new IllegalArgumentException("the decimals are out of range");
        }
        if (listed.isFull()) {
            throw new IllegalStateException("there are 80 facts");
        }
        Fact fact = new Fact(keyOf(concept, period, member), latest, value, DOUBTS[decimals]);
        listed.keep(fact);
        keyed.keep(fact);
        return listed.count;
    }

    public int disagreements(int filing) throws IndexOutOfBoundsException {
        checkFiling(filing);
        int pairs = 0;
        for (int at = 0; at < listed.count; at++) {
            Fact fact = listed.facts[at];
            if (fact != null && fact.filing == filing) {
                pairs += listed.countAgainst(fact, at);
            }
        }
        return pairs;
    }

    public int restated(int filing) throws IndexOutOfBoundsException {
        checkFiling(filing);
        int keys = 0;
        for (int key = 0; key < conceptCount * KEYS_OF_CONCEPT; key++) {
            if (isRestated(key, filing)) {
                keys++;
            }
        }
        return keys;
    }

    // ---- values and sums

    public int value(int concept, int period, int member, int filing) throws IndexOutOfBoundsException, java.util.NoSuchElementException {
        return heldFact(concept, period, member, filing).value;
    }

    public int doubt(int concept, int period, int member, int filing) throws IndexOutOfBoundsException, java.util.NoSuchElementException {
        return heldFact(concept, period, member, filing).doubt;
    }

    public int sum(int concept, int period, int member, int filing) throws IndexOutOfBoundsException {
        checkKey(concept, period, member);
        checkFiling(filing);
        int total = 0;
        for (int part = 0; part < conceptCount; part++) {
            Fact fact = partHolding(keyed, concept, part, keyOf(part, period, member), filing);
            if (fact != null) {
                total += weights[part] * fact.value;
            }
        }
        return total;
    }

    public int derived(int concept, int period, int member, int filing) throws IndexOutOfBoundsException, java.util.NoSuchElementException {
        checkKey(concept, period, member);
        checkFiling(filing);
        reached[0] = concept;
        signs[0] = 1;
        int count = 1;
        int total = 0;
        // One part without a value leaves all above it without one, so the whole derivation
        // can be flattened: each concept that is reached adds its own value or reaches its parts.
        for (int at = 0; at < MAX_CONCEPTS && at < count; at++) {
            Fact fact = keyed.holding(keyOf(reached[at], period, member), filing);
            if (fact != null) {
                total += signs[at] * fact.value;
            } else {
                int grown = reachParts(at, count);
                if (grown == count) {
                    throw new java.util.NoSuchElementException("a value neither holds nor is derived");
                }
                count = grown;
            }
        }
        return total;
    }

    // ---- faults

    public boolean isSumOff(int concept, int period, int member, int filing) throws IndexOutOfBoundsException {
        checkKey(concept, period, member);
        checkFiling(filing);
        return sumFails(keyed, concept, period, member, filing);
    }

    public boolean areMembersOff(int concept, int period, int filing) throws IndexOutOfBoundsException {
        checkKey(concept, period, WHOLE);
        checkFiling(filing);
        return membersFail(keyed, concept, period, filing);
    }

    public boolean isRollOff(int rule, int period, int member, int filing) throws IndexOutOfBoundsException {
        if (rule < 0 || rule >= ruleCount) {
            throw new IndexOutOfBoundsException("no such rule");
        }
        checkPeriodAndMember(period, member);
        checkFiling(filing);
        return rollFails(keyed, rule, period, member, filing);
    }

    public int faults(int filing) throws IndexOutOfBoundsException {
        checkFiling(filing);
        int count = 0;
        for (int key = 0; key < conceptCount * KEYS_OF_CONCEPT; key++) {
            if (keyed.holding(key, filing) != null) {
                count += faultsAt(keyed, key, filing);
            }
        }
        return count;
    }

    public int faultsByList(int filing) throws IndexOutOfBoundsException {
        checkFiling(filing);
        int count = 0;
        for (int at = 0; at < listed.count; at++) {
            Fact fact = listed.facts[at];
            // A key may be told many times; only the fact that holds may count its faults.
            if (fact != null && listed.holding(fact.key, filing) == fact) {
                count += faultsAt(listed, fact.key, filing);
            }
        }
        return count;
    }

    // ---- what is wrong to ask for

    private void checkConcept(int concept) {
        if (concept < 0 || concept >= conceptCount) {
            throw new IndexOutOfBoundsException("no such concept");
        }
    }

    private static void checkPeriodAndMember(int period, int member) {
        if (period < 0 || period >= PERIODS) {
            throw new IndexOutOfBoundsException("no such period");
        }
        if (member < 0 || member >= MEMBERS) {
            throw new IndexOutOfBoundsException("no such member");
        }
    }

    private void checkKey(int concept, int period, int member) {
        checkConcept(concept);
        checkPeriodAndMember(period, member);
    }

    private void checkFiling(int filing) {
        if (filing < 0 || filing > latest) {
            throw new IndexOutOfBoundsException("no such filing");
        }
    }

    // ---- facts

    private Fact heldFact(int concept, int period, int member, int filing) {
        checkKey(concept, period, member);
        checkFiling(filing);
        Fact fact = keyed.holding(keyOf(concept, period, member), filing);
        if (fact == null) {
            throw new java.util.NoSuchElementException("no fact holds");
        }
        return fact;
    }

    private static int keyOf(int concept, int period, int member) {
        return (concept * PERIODS + period) * MEMBERS + member;
    }

    private boolean isRestated(int key, int filing) {
        Fact now = keyed.holding(key, filing);
        if (now == null || now.filing != filing) {
            return false;
        }
        Fact before = keyed.holding(key, filing - 1);
        return before != null && before.value != now.value;
    }

    // ---- concepts

    private boolean isAtOrUnder(int concept, int top) {
        int at = concept;
        for (int step = 0; step < MAX_CONCEPTS && at != NONE; step++) {
            if (at == top) {
                return true;
            }
            at = parents[at];
        }
        return false;
    }

    /** Puts the parts of the concept reached at a place behind those reached so far; the new count. */
    private int reachParts(int at, int count) {
        int grown = count;
        for (int part = 0; part < conceptCount; part++) {
            if (parents[part] == reached[at] && grown < MAX_CONCEPTS) {
                reached[grown] = part;
                signs[grown] = signs[at] * weights[part];
                grown++;
            }
        }
        return grown;
    }

    // ---- faults, over either way of keeping the facts

    /** The fact of a part's key, or null if the part hangs elsewhere or none holds. */
    private Fact partHolding(FactStore facts, int concept, int part, int key, int filing) {
        return parents[part] == concept ? facts.holding(key, filing) : null;
    }

    private boolean sumFails(FactStore facts, int concept, int period, int member, int filing) {
        Fact own = facts.holding(keyOf(concept, period, member), filing);
        if (own == null) {
            return false;
        }
        int total = 0;
        int doubts = own.doubt;
        boolean hasPart = false;
        for (int part = 0; part < conceptCount; part++) {
            Fact fact = partHolding(facts, concept, part, keyOf(part, period, member), filing);
            if (fact != null) {
                total += weights[part] * fact.value;
                doubts += fact.doubt;
                hasPart = true;
            }
        }
        return hasPart && isApart(own.value, total, doubts);
    }

    private static boolean membersFail(FactStore facts, int concept, int period, int filing) {
        Fact whole = facts.holding(keyOf(concept, period, WHOLE), filing);
        if (whole == null) {
            return false;
        }
        int total = 0;
        int doubts = whole.doubt;
        for (int member = WHOLE + 1; member < MEMBERS; member++) {
            Fact fact = facts.holding(keyOf(concept, period, member), filing);
            if (fact == null) {
                return false;
            }
            total += fact.value;
            doubts += fact.doubt;
        }
        return isApart(whole.value, total, doubts);
    }

    private boolean rollFails(FactStore facts, int rule, int period, int member, int filing) {
        if (period == 0) {
            return false;
        }
        Fact now = facts.holding(keyOf(stocks[rule], period, member), filing);
        Fact before = facts.holding(keyOf(stocks[rule], period - 1, member), filing);
        Fact flow = facts.holding(keyOf(flows[rule], period, member), filing);
        if (now == null || before == null || flow == null) {
            return false;
        }
        return isApart(now.value, before.value + flow.value, now.doubt + before.doubt + flow.doubt);
    }

    /** The faults of a key: its sum, the members if it is the whole, the rolls if it is a stock. */
    private int faultsAt(FactStore facts, int key, int filing) {
        int concept = key / KEYS_OF_CONCEPT;
        int period = key / MEMBERS % PERIODS;
        int member = key % MEMBERS;
        int count = sumFails(facts, concept, period, member, filing) ? 1 : 0;
        if (member == WHOLE && membersFail(facts, concept, period, filing)) {
            count++;
        }
        for (int rule = 0; rule < ruleCount; rule++) {
            if (stocks[rule] == concept && rollFails(facts, rule, period, member, filing)) {
                count++;
            }
        }
        return count;
    }

    private static boolean isApart(int one, int other, int doubts) {
        return 2 * Math.abs(one - other) > doubts;
    }

    private static final class Fact {
        final int key;
        final int filing;
        final int value;
        final int doubt;
        /** The one of its key that holds if this one is not there. */
        Fact next;

        Fact(int key, int filing, int value, int doubt) {
            this.key = key;
            this.filing = filing;
            this.value = value;
            this.doubt = doubt;
        }

        /** Whether it holds rather than one of its key that was told before; less decimals are less doubt. */
        boolean replaces(Fact earlier) {
            return filing > earlier.filing || filing == earlier.filing && doubt < earlier.doubt;
        }

        boolean disagreesWith(Fact other) {
            return filing == other.filing && key == other.key && isApart(value, other.value, doubt + other.doubt);
        }
    }

    private abstract static class FactStore {
        /** The fact that holds for a key as of a filing, or null. */
        abstract Fact holding(int key, int filing);
    }

    /** All facts, as they were told. */
    private static final class ListedFacts extends FactStore {
        final Fact[] facts = new Fact[MAX_FACTS];
        int count;

        boolean isFull() {
            return count >= MAX_FACTS;
        }

        void keep(Fact fact) {
            if (count < MAX_FACTS) {
                facts[count] = fact;
                count++;
            }
        }

        Fact holding(int key, int filing) {
            Fact best = null;
            for (int at = 0; at < count; at++) {
                Fact fact = facts[at];
                if (fact != null && fact.key == key && fact.filing <= filing && (best == null || fact.replaces(best))) {
                    best = fact;
                }
            }
            return best;
        }

        /** How many of the first facts disagree with one. */
        int countAgainst(Fact fact, int first) {
            int found = 0;
            for (int at = 0; at < first; at++) {
                Fact earlier = facts[at];
                if (earlier != null && fact.disagreesWith(earlier)) {
                    found++;
                }
            }
            return found;
        }
    }

    /** The facts that ever held, in a chain for each key, the one that holds as of the latest filing first. */
    private static final class KeyedFacts extends FactStore {
        private final Fact[] firsts = new Fact[KEYS];

        void keep(Fact fact) {
            Fact first = firsts[fact.key];
            // Facts are told in the latest filing alone: one that does not hold at once never will.
            if (first == null || fact.replaces(first)) {
                fact.next = first;
                firsts[fact.key] = fact;
            }
        }

        Fact holding(int key, int filing) {
            Fact fact = firsts[key];
            while (fact != null && fact.filing > filing) {
                fact = fact.next;
            }
            return fact;
        }
    }
}
