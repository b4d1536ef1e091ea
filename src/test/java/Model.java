import java.util.ArrayList;
import java.util.HashSet;
import java.util.List;
import java.util.NoSuchElementException;
import java.util.Set;

/** The document's words, taken as plainly as can be, to compare the class with. */
final class Model {
    record Fact(int concept, int period, int member, int filing, int value, int decimals) {
        long doubt() {
            return Math.round(Math.pow(10, decimals));
        }

        boolean hasKeyOf(Fact o) {
            return concept == o.concept && period == o.period && member == o.member;
        }
    }

    record Key(int concept, int period, int member) {
    }

    final List<int[]> concepts = new ArrayList<>(); // the parent and the weight
    final List<int[]> rules = new ArrayList<>(); // the stock and the flow
    final List<Fact> facts = new ArrayList<>();
    int filings = 1;

    int addConcept() {
        check(concepts.size() < 12);
        concepts.add(new int[] {-1, 0});
        return concepts.size() - 1;
    }

    int hang(int concept, int parent, boolean isPlus) {
        within(concept, concepts.size());
        within(parent, concepts.size());
        for (int above = parent; above != -1; above = concepts.get(above)[0]) {
            if (above == concept) {
                throw new IllegalArgumentException();
            }
        }
        return concepts.set(concept, new int[] {parent, isPlus ? 1 : -1})[0];
    }

    int unhang(int concept) {
        within(concept, concepts.size());
        return concepts.set(concept, new int[] {-1, 0})[0];
    }

    int addRoll(int stock, int flow) {
        within(stock, concepts.size());
        within(flow, concepts.size());
        if (stock == flow) {
            throw new IllegalArgumentException();
        }
        check(rules.size() < 5);
        rules.add(new int[] {stock, flow});
        return rules.size() - 1;
    }

    int file() {
        check(filings < 8);
        return filings++;
    }

    int tell(int concept, int period, int member, int value, int decimals) {
        withinKey(concept, period, member);
        if (value < -1000000 || value > 1000000 || decimals < 0 || decimals > 4) {
            throw new IllegalArgumentException();
        }
        check(facts.size() < 80);
        facts.add(new Fact(concept, period, member, filings - 1, value, decimals));
        return facts.size();
    }

    int disagreements(int filing) {
        within(filing, filings);
        int pairs = 0;
        for (int i = 0; i < facts.size(); i++) {
            for (int j = i + 1; j < facts.size(); j++) {
                Fact a = facts.get(i);
                Fact b = facts.get(j);
                if (a.filing() == filing && b.filing() == filing && a.hasKeyOf(b)
                    && !(2L * Math.abs(a.value() - b.value()) <= a.doubt() + b.doubt())) {
                    pairs++;
                }
            }
        }
        return pairs;
    }

    int restated(int filing) {
        within(filing, filings);
        Set<Key> keys = new HashSet<>();
        for (Fact f : facts) {
            Fact before = holds(f.concept(), f.period(), f.member(), filing - 1);
            if (f.filing() == filing && before != null
                && before.value() != holds(f.concept(), f.period(), f.member(), filing).value()) {
                keys.add(new Key(f.concept(), f.period(), f.member()));
            }
        }
        return keys.size();
    }

    private Fact holds(int concept, int period, int member, int filing) {
        for (int of = filing; of >= 0; of--) {
            for (int decimals = 0; decimals <= 4; decimals++) {
                for (Fact f : facts) {
                    if (f.concept() == concept && f.period() == period && f.member() == member && f.filing() == of
                        && f.decimals() == decimals) {
                        return f;
                    }
                }
            }
        }
        return null;
    }

    private Fact held(int concept, int period, int member, int filing) {
        withinKey(concept, period, member);
        within(filing, filings);
        Fact f = holds(concept, period, member, filing);
        if (f == null) {
            throw new NoSuchElementException();
        }
        return f;
    }

    int value(int concept, int period, int member, int filing) {
        return held(concept, period, member, filing).value();
    }

    int doubt(int concept, int period, int member, int filing) {
        return (int) held(concept, period, member, filing).doubt();
    }

    int sum(int concept, int period, int member, int filing) {
        withinKey(concept, period, member);
        within(filing, filings);
        int sum = 0;
        for (int part : under(concept)) {
            Fact f = holds(part, period, member, filing);
            sum += f == null ? 0 : concepts.get(part)[1] * f.value();
        }
        return sum;
    }

    int derived(int concept, int period, int member, int filing) {
        withinKey(concept, period, member);
        within(filing, filings);
        Fact own = holds(concept, period, member, filing);
        if (own != null) {
            return own.value();
        }
        if (under(concept).isEmpty()) {
            throw new NoSuchElementException();
        }
        int sum = 0;
        for (int part : under(concept)) {
            sum += concepts.get(part)[1] * derived(part, period, member, filing);
        }
        return sum;
    }

    private List<Integer> under(int concept) {
        List<Integer> parts = new ArrayList<>();
        for (int part = 0; part < concepts.size(); part++) {
            if (concepts.get(part)[0] == concept) {
                parts.add(part);
            }
        }
        return parts;
    }

    boolean isSumOff(int concept, int period, int member, int filing) {
        int sum = sum(concept, period, member, filing);
        Fact own = holds(concept, period, member, filing);
        List<Fact> parts = new ArrayList<>();
        for (int part : under(concept)) {
            parts.add(holds(part, period, member, filing));
        }
        parts.removeIf(f -> f == null);
        if (own == null || parts.isEmpty()) {
            return false;
        }
        return 2L * Math.abs(own.value() - sum) > own.doubt() + parts.stream().mapToLong(Fact::doubt).sum();
    }

    boolean areMembersOff(int concept, int period, int filing) {
        withinKey(concept, period, 0);
        within(filing, filings);
        long gap = 0;
        long doubts = 0;
        for (int member = 0; member < 4; member++) {
            Fact f = holds(concept, period, member, filing);
            if (f == null) {
                return false;
            }
            gap += member == 0 ? f.value() : -f.value();
            doubts += f.doubt();
        }
        return 2 * Math.abs(gap) > doubts;
    }

    boolean isRollOff(int rule, int period, int member, int filing) {
        within(rule, rules.size());
        withinKey(rules.get(rule)[0], period, member);
        within(filing, filings);
        Fact now = holds(rules.get(rule)[0], period, member, filing);
        Fact before = holds(rules.get(rule)[0], period - 1, member, filing);
        Fact flow = holds(rules.get(rule)[1], period, member, filing);
        return now != null && before != null && flow != null
            && 2L * Math.abs(now.value() - (before.value() + flow.value())) > now.doubt() + before.doubt() + flow.doubt();
    }

    int faults(int filing) {
        within(filing, filings);
        int count = 0;
        for (int period = 0; period < 10; period++) {
            for (int concept = 0; concept < concepts.size(); concept++) {
                count += areMembersOff(concept, period, filing) ? 1 : 0;
                for (int member = 0; member < 4; member++) {
                    count += isSumOff(concept, period, member, filing) ? 1 : 0;
                }
            }
            for (int rule = 0; rule < rules.size(); rule++) {
                for (int member = 0; member < 4; member++) {
                    count += isRollOff(rule, period, member, filing) ? 1 : 0;
                }
            }
        }
        return count;
    }

    private void withinKey(int concept, int period, int member) {
        within(concept, concepts.size());
        within(period, 10);
        within(member, 4);
    }

    private static void within(int number, int count) {
        if (number < 0 || number >= count) {
            throw new IndexOutOfBoundsException();
        }
    }

    private static void check(boolean hasRoom) {
        if (!hasRoom) {
            throw new IllegalStateException();
        }
    }
}
