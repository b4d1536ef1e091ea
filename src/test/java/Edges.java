/** What lies beyond the first and the last concept, period, member, filing or rule, for any method that takes them. */
final class Edges {
    interface KeyCall {
        Object on(Dimfacts x, int concept, int period, int member, int filing);
    }

    interface NumberCall {
        Object on(Dimfacts x, int number);
    }

    private Edges() {
    }

    /** Next to both ends, far from them, and such as wrap around to 0 when they are taken times 4, 8, or 40. */
    static int[] beyond(int count) {
        return new int[] {-1, count, -count - 1, Integer.MIN_VALUE, Integer.MAX_VALUE, 1 << 29, 1 << 30, -(1 << 29)};
    }

    static void refusesConcept(String name, KeyCall call) {
        refuses(name + ", concepts of none", Made::empty, 0, (x, c) -> call.on(x, c, 0, 0, 0));
        refuses(name + ", concepts of one", () -> Made.concepts(1), 1, (x, c) -> call.on(x, c, 0, 0, 0));
        refuses(name + ", concepts of four", Made::some, 4, (x, c) -> call.on(x, c, 1, 0, 1));
        refuses(name + ", concepts of twelve", Made::full, 12, (x, c) -> call.on(x, c, 9, 3, 7));
    }

    static void refusesPeriod(String name, KeyCall call) {
        refuses(name + ", periods", Made::full, 10, (x, p) -> call.on(x, 0, p, 0, 7));
        refuses(name + ", periods beside other concepts", Made::corners, 10, (x, p) -> call.on(x, p < 0 ? 1 : 10, p, 3, 7));
    }

    static void refusesMember(String name, KeyCall call) {
        refuses(name + ", members", Made::full, 4, (x, m) -> call.on(x, 0, 0, m, 7));
        refuses(name + ", members beside other periods", Made::full, 4, (x, m) -> call.on(x, 10, m < 0 ? 9 : 8, m, 7));
    }

    static void refusesFiling(String name, KeyCall call) {
        refusesFiling(name, (x, f) -> call.on(x, 0, 0, 0, f));
    }

    static void refusesFiling(String name, NumberCall call) {
        refuses(name + ", filings of one", () -> Made.facts(5), 1, call);
        refuses(name + ", filings of two", Made::some, 2, call);
        refuses(name + ", filings of eight", Made::full, 8, call);
    }

    static void refuses(String name, Refused.Maker maker, int count, NumberCall call) {
        for (int number : beyond(count)) {
            Refused.due(Check.BOUNDS, name + ": " + number, maker, x -> call.on(x, number));
        }
    }
}
