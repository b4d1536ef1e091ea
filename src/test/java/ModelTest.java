/** Long runs of calls, the same each time, whose answers the Model gives too. */
public final class ModelTest {
    private static final int RUNS = 80;
    private static final int CALLS = 500;

    private long seed;
    private final Dimfacts x = new Dimfacts();
    private final Model m = new Model();
    /** How far the keys of a run are spread: a narrow run meets its own keys again. */
    private final int conceptSpread;
    private final int periodSpread;
    private final int memberSpread;
    private final int valueSpread;
    private final int fileEvery;

    private ModelTest(int run) {
        seed = 7919L * run + 17;
        conceptSpread = 2 + next(11);
        periodSpread = 1 + next(4);
        memberSpread = 1 + next(4);
        int[] spreads = {3, 20, 200, 5000, 1000001};
        valueSpread = spreads[next(spreads.length)];
        fileEvery = 20 + next(60);
    }

    public static void main(String[] args) {
        for (int run = 0; run < RUNS; run++) {
            new ModelTest(run).go("run " + run + ", ");
        }
        Check.end();
    }

    private int next(int bound) {
        seed = seed * 6364136223846793005L + 1442695040888963407L;
        return (int) ((seed >>> 33) % bound);
    }

    /** Mostly below the spread, now and then at or over the edge. */
    private int pick(int spread, int limit) {
        int kind = next(60);
        return kind == 0 ? -1 : kind == 1 ? limit : kind == 2 ? limit - 1 : next(spread);
    }

    private void go(String run) {
        for (int i = 0; i < 3; i++) {
            both(run + "addConcept()", x::addConcept, m::addConcept);
        }
        for (int call = 3; call < CALLS; call++) {
            int kind = next(100);
            if (kind < 12) {
                changeConcepts(run + call + " ");
            } else if (kind < 40) {
                tell(run + call + " ");
            } else if (kind < 42) {
                if (next(fileEvery) < 15) {
                    both(run + call + " file()", x::file, m::file);
                }
            } else {
                ask(run + call + " ");
            }
        }
    }

    private void changeConcepts(String at) {
        int a = pick(conceptSpread, 12);
        int b = pick(conceptSpread, 12);
        boolean isPlus = next(2) == 0;
        int kind = next(10);
        if (kind < 3) {
            both(at + "addConcept()", x::addConcept, m::addConcept);
        } else if (kind < 7) {
            both(at + "hang(" + a + ", " + b + ", " + isPlus + ")", () -> x.hang(a, b, isPlus), () -> m.hang(a, b, isPlus));
        } else if (kind < 8) {
            both(at + "unhang(" + a + ")", () -> x.unhang(a), () -> m.unhang(a));
        } else {
            both(at + "addRoll(" + a + ", " + b + ")", () -> x.addRoll(a, b), () -> m.addRoll(a, b));
        }
    }

    private void tell(String at) {
        int c = pick(conceptSpread, 12);
        int p = pick(periodSpread, 10);
        int k = pick(memberSpread, 4);
        int v = next(50) == 0 ? 1000001 : next(valueSpread) * (1 - 2 * next(2));
        int d = next(3) == 0 ? pick(5, 5) : next(2);
        both(at + "tell(" + c + ", " + p + ", " + k + ", " + v + ", " + d + ")", () -> x.tell(c, p, k, v, d), () -> m.tell(c, p, k, v, d));
    }

    private void ask(String at) {
        int c = pick(conceptSpread, 12);
        int p = pick(periodSpread, 10);
        int k = pick(memberSpread, 4);
        int f = next(20) == 0 ? m.filings : next(m.filings);
        int r = next(Math.min(5, m.rules.size() + 1));
        String key = "(" + c + ", " + p + ", " + k + ", " + f + ")";
        switch (next(11)) {
            case 0 -> both(at + "disagreements(" + f + ")", () -> x.disagreements(f), () -> m.disagreements(f));
            case 1 -> both(at + "restated(" + f + ")", () -> x.restated(f), () -> m.restated(f));
            case 2 -> both(at + "value" + key, () -> x.value(c, p, k, f), () -> m.value(c, p, k, f));
            case 3 -> both(at + "doubt" + key, () -> x.doubt(c, p, k, f), () -> m.doubt(c, p, k, f));
            case 4 -> both(at + "sum" + key, () -> x.sum(c, p, k, f), () -> m.sum(c, p, k, f));
            case 5 -> both(at + "derived" + key, () -> x.derived(c, p, k, f), () -> m.derived(c, p, k, f));
            case 6 -> both(at + "isSumOff" + key, () -> x.isSumOff(c, p, k, f), () -> m.isSumOff(c, p, k, f));
            case 7 -> both(at + "areMembersOff" + key, () -> x.areMembersOff(c, p, f), () -> m.areMembersOff(c, p, f));
            case 8 -> both(at + "isRollOff, rule " + r + key, () -> x.isRollOff(r, p, k, f), () -> m.isRollOff(r, p, k, f));
            case 9 -> both(at + "faults(" + f + ")", () -> x.faults(f), () -> m.faults(f));
            default -> both(at + "faultsByList(" + f + ")", () -> x.faultsByList(f), () -> m.faults(f));
        }
    }

    private static void both(String what, Check.Call call, Check.Call model) {
        Check.due(Check.answerOf(model), what, call);
    }
}
