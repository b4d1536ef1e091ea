/** Objects to begin a test with; each call makes a new one that is like the last. */
final class Made {
    static final int[] FULL_CONCEPTS = {0, 1, 2, 10, 11};

    private Made() {
    }

    static Dimfacts empty() {
        return new Dimfacts();
    }

    static Dimfacts concepts(int count) {
        Dimfacts x = new Dimfacts();
        for (int i = 0; i < count; i++) {
            x.addConcept();
        }
        return x;
    }

    static Dimfacts filings(int count) {
        return filed(concepts(1), count);
    }

    /** Until there are so many filings; a new object has one. */
    static Dimfacts filed(Dimfacts x, int count) {
        for (int i = 1; i < count; i++) {
            x.file();
        }
        return x;
    }

    static Dimfacts facts(int count) {
        Dimfacts x = concepts(12);
        for (int i = 0; i < count; i++) {
            x.tell(i % 12, i % 10, i % 4, i, i % 5);
        }
        return x;
    }

    static Dimfacts rules(int count) {
        Dimfacts x = concepts(12);
        for (int i = 0; i < count; i++) {
            x.addRoll(i, 11);
        }
        return x;
    }

    /** The concept 0, 1 under it, and so on down to the last. */
    static Dimfacts chain(int count) {
        Dimfacts x = concepts(count);
        for (int i = 1; i < count; i++) {
            x.hang(i, i - 1, true);
        }
        return x;
    }

    /** Some of all: 1 and 2 under 0, 3 under 2; a rule; two filings; keys that are told twice and again. */
    static Dimfacts some() {
        Dimfacts x = concepts(4);
        x.hang(1, 0, true);
        x.hang(2, 0, false);
        x.hang(3, 2, true);
        x.addRoll(1, 3);
        tellSome(x, 100);
        x.file();
        tellSome(x, 3000);
        return x;
    }

    private static void tellSome(Dimfacts x, int base) {
        for (int concept = 0; concept < 4; concept++) {
            for (int period = 0; period < 2; period++) {
                x.tell(concept, period, 0, base * (concept + 2) + period, concept % 3);
            }
        }
        x.tell(0, 0, 0, base, 0);
        x.tell(0, 0, 0, -base, 0);
        for (int member = 1; member < 4; member++) {
            x.tell(1, 1, member, base + member, 1);
        }
    }

    /** As much of all as there can be: 12 concepts in a chain, 5 rules, 8 filings, 80 facts. */
    static Dimfacts full() {
        Dimfacts x = concepts(12);
        for (int i = 1; i < 12; i++) {
            x.hang(i, i - 1, i % 3 != 0);
        }
        for (int i = 0; i < 5; i++) {
            x.addRoll(FULL_CONCEPTS[i], FULL_CONCEPTS[(i + 1) % 5]);
        }
        for (int filing = 0; filing < 8; filing++) {
            if (filing > 0) {
                x.file();
            }
            for (int concept : FULL_CONCEPTS) {
                x.tell(concept, 8, filing % 4, 1000 * concept + 10 * filing, concept % 5);
                x.tell(concept, 9, filing % 4, 3000 * concept + 70 * filing, filing % 5);
            }
        }
        return x;
    }

    /** 12 concepts, 8 filings and 5 rules; facts at the first and the last of all, in the first and the last filing. */
    static Dimfacts corners() {
        Dimfacts x = concepts(12);
        x.hang(1, 0, true);
        x.hang(10, 11, true);
        for (int rule = 0; rule < 5; rule++) {
            x.addRoll(rule == 4 ? 11 : 0, rule == 0 ? 1 : 10);
        }
        tellCorners(x, 0);
        filed(x, 8);
        tellCorners(x, 7);
        return x;
    }

    private static void tellCorners(Dimfacts x, int filing) {
        for (int concept : new int[] {0, 1, 10, 11}) {
            for (int period = 0; period < 10; period += 9) {
                for (int member = 0; member < 4; member += 3) {
                    x.tell(concept, period, member, corner(concept, period, member, filing), decimals(member, filing));
                }
            }
        }
    }

    static int corner(int concept, int period, int member, int filing) {
        return concept * 10000 + period * 1000 + member * 100 + filing * 10;
    }

    static int decimals(int member, int filing) {
        return filing == 7 ? member + 1 : member;
    }
}
