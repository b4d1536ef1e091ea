/** The section "Terms", sentence by sentence: what is still taken, what is refused first, and that this changes nothing. */
public final class TermsBoundaryTest {
    private static final String TERMS = "Terms";

    public static void main(String[] args) {
        conceptsAreNumberedFrom0AtMost12();
        weights1OrMinus1AndNoConceptHangsUnderItself();
        periods0To9Members0To3();
        membersTheMember0IsTheWhole();
        filingsFrom0OneAtFirstAtMost8();
        factsInTheLatestFilingAtMost80();
        aFactHasAKeyAValueAndDecimals();
        itsDoubtIs10ToThePowerOfItsDecimals();
        twoFactsAgreeIfAtMost();
        whatHoldsForAKey();
        theSumForAKey();
        aSumIsOffIfMore();
        membersAreOffIfMore();
        aRollRuleHasAStockAndAFlow();
        aRollIsOffIfMore();
        theFirstNamedExceptionIsThrown();
        aCallThatThrowsChangesNothing();
        throwsIndexOutOfBoundsIfThereIsNoSuch();
        constantNone();
        theHeadingsAheadOfTheCalls();
        Doc.allOf(TERMS,
            "The calls tell concepts, filings, facts and rules, and ask for values, sums, faults and values that are derived");
        Check.end();
    }

    private static void conceptsAreNumberedFrom0AtMost12() {
        Doc.says(TERMS, "Concepts are numbered from 0, at most 12");
        Dimfacts x = Made.empty();
        for (int i = 0; i < 12; i++) {
            Check.due(i, "concept " + (i + 1) + " of 12", x::addConcept);
        }
        Check.due(-1, "the last is there", () -> x.unhang(11));
        Check.due(Check.BOUNDS, "no other behind it", () -> x.unhang(12));
        Refused.due(Check.STATE, "the 13th", () -> Made.concepts(12), Dimfacts::addConcept);
    }

    private static void weights1OrMinus1AndNoConceptHangsUnderItself() {
        Doc.says(TERMS, "A concept can hang under another one, with the weight 1 or -1; "
            + "no concept hangs under itself, directly or over others");
        Dimfacts x = Made.concepts(2);
        x.tell(1, 0, 0, 1000000, 0);
        x.hang(1, 0, true);
        Check.due(1000000, "the weight 1", () -> x.sum(0, 0, 0, 0));
        x.hang(1, 0, false);
        Check.due(-1000000, "the weight -1", () -> x.sum(0, 0, 0, 0));
        Refused.due(Check.ARGUMENT, "under itself", Made::some, y -> y.hang(1, 1, true));
        Refused.due(Check.ARGUMENT, "under itself over one", Made::some, y -> y.hang(0, 1, true));
        Refused.due(Check.ARGUMENT, "under itself over two", Made::some, y -> y.hang(0, 3, true));
        Refused.due(Check.ARGUMENT, "under itself over eleven", Made::full, y -> y.hang(0, 11, true));
        Dimfacts chain = Made.chain(12);
        Check.due(10, "the last of a chain, under the first", () -> chain.hang(11, 0, true));
        Check.due(-1, "the first, under the last, which no longer hangs under it", () -> {
            chain.unhang(11);
            return chain.hang(0, 11, true);
        });
    }

    private static void periods0To9Members0To3() {
        Doc.says(TERMS, "Periods are 0 to 9, members 0 to 3; the member 0 is the whole");
        Dimfacts x = Made.concepts(2);
        int count = 0;
        for (int period = 0; period < 10; period++) {
            for (int member = 0; member < 4; member++) {
                int at = period;
                int of = member;
                count++;
                Check.due(count, "taken", () -> x.tell(1, at, of, 10 * at + of, 0));
            }
        }
        for (int period = 0; period < 10; period++) {
            for (int member = 0; member < 4; member++) {
                int at = period;
                int of = member;
                Check.due(10 * at + of, "each is a key of its own", () -> x.value(1, at, of, 0));
            }
        }
        Refused.due(Check.BOUNDS, "period -1", Made::some, y -> y.tell(1, -1, 0, 5, 0));
        Refused.due(Check.BOUNDS, "period 10", Made::some, y -> y.tell(1, 10, 0, 5, 0));
        Refused.due(Check.BOUNDS, "member -1", Made::some, y -> y.tell(1, 1, -1, 5, 0));
        Refused.due(Check.BOUNDS, "member 4", Made::some, y -> y.tell(1, 0, 4, 5, 0));
    }

    private static void membersTheMember0IsTheWhole() {
        Doc.says(TERMS, "Periods are 0 to 9, members 0 to 3; the member 0 is the whole");
        for (int whole = 0; whole < 4; whole++) {
            Dimfacts x = Made.concepts(1);
            for (int member = 0; member < 4; member++) {
                x.tell(0, 9, member, member == whole ? 60 : 20, 0);
            }
            Check.due(whole != 0, "60 of the member " + whole + ", 20 of the others", () -> x.areMembersOff(0, 9, 0));
        }
    }

    private static void filingsFrom0OneAtFirstAtMost8() {
        Doc.says(TERMS, "Filings are numbered from 0; there is one at first, and there are at most 8");
        Dimfacts x = Made.empty();
        Check.due(0, "the filing 0 is there", () -> x.faults(0));
        Check.due(Check.BOUNDS, "the filing 1 is not", () -> x.faults(1));
        for (int i = 1; i < 8; i++) {
            Check.due(i, "filing " + (i + 1) + " of 8", x::file);
        }
        Check.due(0, "the filing 7 is there", () -> x.faults(7));
        Check.due(Check.BOUNDS, "no other behind it", () -> x.faults(8));
        Refused.due(Check.STATE, "the ninth", () -> Made.filings(8), Dimfacts::file);
    }

    private static void factsInTheLatestFilingAtMost80() {
        Doc.says(TERMS, "Facts are told in the latest filing; there are at most 80");
        Dimfacts x = Made.filings(7);
        x.tell(0, 0, 0, 6, 0);
        x.file();
        x.tell(0, 0, 1, 7, 0);
        Check.due(Check.MISSING, "the first is not before its filing", () -> x.value(0, 0, 0, 5));
        Check.due(6, "it is in its filing", () -> x.value(0, 0, 0, 6));
        Check.due(Check.MISSING, "the second is not before its filing", () -> x.value(0, 0, 1, 6));
        Check.due(7, "it is in its filing", () -> x.value(0, 0, 1, 7));
        for (int i = 3; i <= 80; i++) {
            Check.due(i, "fact " + i + " of 80", () -> x.tell(0, 1, 0, 5, 0));
        }
        Check.due(Check.STATE, "the 81st", () -> x.tell(0, 2, 0, 5, 0));
        Refused.due(Check.STATE, "the 81st", () -> Made.facts(80), y -> y.tell(0, 2, 0, 5, 0));
        Refused.due(Check.STATE, "the 81st, of eight filings", Made::full, y -> y.tell(0, 2, 0, 5, 0));
    }

    private static void aFactHasAKeyAValueAndDecimals() {
        Doc.says(TERMS, "A fact has a concept, a period and a member (these three are its key), "
            + "a value, -1000000 to 1000000, and decimals, 0 to 4");
        Dimfacts x = Made.concepts(2);
        int[][] keys = {{0, 0, 0}, {1, 0, 0}, {0, 1, 0}, {0, 0, 1}};
        for (int i = 0; i < 4; i++) {
            x.tell(keys[i][0], keys[i][1], keys[i][2], i == 0 ? -1000000 : 1000000 - i, i == 0 ? 4 : 0);
        }
        Check.due(-1000000, "the least value", () -> x.value(0, 0, 0, 0));
        Check.due(10000, "the most decimals", () -> x.doubt(0, 0, 0, 0));
        for (int i = 1; i < 4; i++) {
            int[] k = keys[i];
            Check.due(1000000 - i, "one of the three is another", () -> x.value(k[0], k[1], k[2], 0));
            Check.due(1, "the least decimals", () -> x.doubt(k[0], k[1], k[2], 0));
        }
        Check.due(5, "the most value", () -> x.tell(1, 9, 3, 1000000, 0));
        Check.due(1000000, "the most value", () -> x.value(1, 9, 3, 0));
        Refused.due(Check.ARGUMENT, "a value less", Made::some, y -> y.tell(0, 0, 0, -1000001, 0));
        Refused.due(Check.ARGUMENT, "a value more", Made::some, y -> y.tell(0, 0, 0, 1000001, 0));
        Refused.due(Check.ARGUMENT, "decimals less", Made::some, y -> y.tell(0, 0, 0, 5, -1));
        Refused.due(Check.ARGUMENT, "decimals more", Made::some, y -> y.tell(0, 0, 0, 5, 5));
    }

    private static void itsDoubtIs10ToThePowerOfItsDecimals() {
        Doc.says(TERMS, "Its doubt is 10 to the power of its decimals");
        int[] doubts = {1, 10, 100, 1000, 10000};
        for (int decimals = 0; decimals < 5; decimals++) {
            Dimfacts x = Made.concepts(1);
            x.tell(0, 0, 0, 0, decimals);
            Check.due(doubts[decimals], "with the decimals " + decimals, () -> x.doubt(0, 0, 0, 0));
        }
    }

    private static void twoFactsAgreeIfAtMost() {
        Doc.says(TERMS, "Two facts agree if 2 times the size of the difference of their values is at most the sum of their doubts");
        dueAgree(0, 0, 0, 1);
        dueAgree(0, 1, 1, 5);
        dueAgree(1, 1, 2, 10);
        dueAgree(0, 2, 3, 50);
        dueAgree(2, 3, 5, 550);
        dueAgree(0, 4, 6, 5000);
        dueAgree(4, 4, 7, 10000);
        dueFarApart();
    }

    /** The greatest difference that two facts agree with, and the next. */
    private static void dueAgree(int decimals, int others, int base, int most) {
        for (int sign = -1; sign < 2; sign += 2) {
            Dimfacts x = Made.concepts(1);
            x.tell(0, 0, 0, base, decimals);
            x.tell(0, 0, 0, base + sign * most, others);
            Check.due(0, decimals + " and " + others + " decimals, " + most + " apart", () -> x.disagreements(0));
            Dimfacts y = Made.concepts(1);
            y.tell(0, 0, 0, base, decimals);
            y.tell(0, 0, 0, base + sign * (most + 1), others);
            Check.due(1, decimals + " and " + others + " decimals, one more", () -> y.disagreements(0));
        }
    }

    private static void dueFarApart() {
        Dimfacts x = Made.concepts(1);
        x.tell(0, 0, 0, 1000000, 4);
        x.tell(0, 0, 0, 1000000, 0);
        Check.due(0, "the same value", () -> x.disagreements(0));
        x.tell(0, 0, 0, -1000000, 4);
        Check.due(2, "as far as can be", () -> x.disagreements(0));
    }

    private static void whatHoldsForAKey() {
        Doc.says(TERMS, "What holds for a key as of a filing is a fact with this key: of the latest filing that has one, "
            + "up to that filing; of several in it the one with the least decimals, of several of these the first one that was told");
        Dimfacts x = Made.concepts(1);
        x.tell(0, 0, 0, 10, 0);
        Made.filed(x, 8);
        Check.due(10, "of the first filing, as of the last", () -> x.value(0, 0, 0, 7));
        x.tell(0, 0, 0, 20, 4);
        Check.due(20, "of the last filing, whatever its decimals", () -> x.value(0, 0, 0, 7));
        Check.due(10, "up to the one before", () -> x.value(0, 0, 0, 6));
        x.tell(0, 0, 0, 30, 4);
        Check.due(20, "the first of the same decimals", () -> x.value(0, 0, 0, 7));
        x.tell(0, 0, 0, 40, 3);
        Check.due(40, "one decimal less", () -> x.value(0, 0, 0, 7));
        x.tell(0, 0, 0, 50, 4);
        Check.due(40, "one more, told behind it", () -> x.value(0, 0, 0, 7));
        x.tell(0, 0, 0, 60, 3);
        Check.due(40, "as many, told behind it", () -> x.value(0, 0, 0, 7));
        x.tell(0, 0, 0, 70, 0);
        x.tell(0, 0, 0, 80, 0);
        Check.due(70, "the first without decimals", () -> x.value(0, 0, 0, 7));
        Check.due(10, "as of the first filing, still its own", () -> x.value(0, 0, 0, 0));
    }

    private static void theSumForAKey() {
        Doc.says(TERMS, "The sum for a key as of a filing is the sum, over all concepts that hang directly under the key's concept, "
            + "and for which there is a fact that holds for the same period and member as of the filing, "
            + "of the weight times the value of that fact");
        Dimfacts x = Made.concepts(12);
        for (int i = 1; i < 12; i++) {
            x.hang(i, 0, true);
        }
        Check.due(0, "eleven under it, none with a fact", () -> x.sum(0, 9, 3, 0));
        for (int i = 1; i < 12; i++) {
            int part = i;
            x.tell(part, 9, 3, 1000000, 0);
            Check.due(1000000 * part, "of eleven, with a fact " + part, () -> x.sum(0, 9, 3, 0));
        }
        Check.due(0, "the period before", () -> x.sum(0, 8, 3, 0));
        Check.due(0, "the member before", () -> x.sum(0, 9, 2, 0));
        for (int i = 1; i < 12; i++) {
            x.hang(i, 0, false);
        }
        Check.due(-11000000, "all eleven with the weight -1", () -> x.sum(0, 9, 3, 0));
        x.hang(11, 10, true);
        Check.due(-10000000, "one that hangs over another is not added", () -> x.sum(0, 9, 3, 0));
        x.file();
        x.tell(1, 9, 3, -1000000, 0);
        Check.due(-8000000, "with a fact of the next filing", () -> x.sum(0, 9, 3, 1));
        Check.due(-10000000, "as of the filing before", () -> x.sum(0, 9, 3, 0));
    }

    private static void aSumIsOffIfMore() {
        Doc.says(TERMS, "A sum is off if a fact holds for the key itself, and there is one for some concept that hangs directly under it, "
            + "and 2 times the size of the difference of the value and the sum is more than the doubts of all of these facts together");
        dueSumOff(1, 0, 0, 1);
        dueSumOff(1, 0, 1, 5);
        dueSumOff(1, 1, 0, 5);
        dueSumOff(1, 4, 4, 10000);
        dueSumOff(2, 0, 0, 1);
        dueSumOff(3, 0, 0, 2);
        dueSumOff(11, 0, 0, 6);
        dueSumOff(11, 0, 4, 55000);
        Dimfacts x = Made.concepts(12);
        x.tell(0, 0, 0, 1000000, 0);
        Check.due(false, "no concept under it", () -> x.isSumOff(0, 0, 0, 0));
        for (int i = 1; i < 12; i++) {
            x.hang(i, 0, false);
        }
        Check.due(false, "eleven, none with a fact", () -> x.isSumOff(0, 0, 0, 0));
        x.tell(11, 0, 0, 1, 0);
        Check.due(true, "one with a fact", () -> x.isSumOff(0, 0, 0, 0));
        x.tell(11, 1, 0, 1000000, 0);
        Check.due(false, "no fact for the key itself", () -> x.isSumOff(0, 1, 0, 0));
        for (int i = 1; i < 11; i++) {
            x.tell(i, 0, 0, 1000000, 4);
        }
        Check.due(true, "as far as can be", () -> x.isSumOff(0, 0, 0, 0));
    }

    /** The greatest difference of a sum of so many that is not off, and the next. */
    private static void dueSumOff(int parts, int decimals, int decimalsOfParts, int most) {
        for (int sign = -1; sign < 2; sign += 2) {
            Dimfacts x = Made.concepts(12);
            for (int i = 1; i <= parts; i++) {
                x.hang(i, 0, true);
                x.tell(i, 9, 3, 1000, decimalsOfParts);
            }
            x.tell(0, 9, 3, 1000 * parts + sign * most, decimals);
            Check.due(false, parts + " parts, " + most + " apart", () -> x.isSumOff(0, 9, 3, 0));
            x.file();
            x.tell(0, 9, 3, 1000 * parts + sign * (most + 1), decimals);
            Check.due(true, parts + " parts, one more", () -> x.isSumOff(0, 9, 3, 1));
        }
    }

    private static void membersAreOffIfMore() {
        Doc.says(TERMS, "The members of a concept and a period are off as of a filing if facts hold for all four members, "
            + "and 2 times the size of the difference of the whole's value and the sum of the values of the members 1 to 3 "
            + "is more than the doubts of all four together");
        dueMembersOff(0, 0, 2);
        dueMembersOff(1, 0, 6);
        dueMembersOff(0, 1, 15);
        dueMembersOff(4, 4, 20000);
        Dimfacts x = Made.concepts(1);
        for (int member = 0; member < 4; member++) {
            int of = member;
            Check.due(false, member + " of four hold", () -> x.areMembersOff(0, 0, 0));
            x.tell(0, 0, of, of == 0 ? -1000000 : 1000000, 4);
        }
        Check.due(true, "all four, as far as can be", () -> x.areMembersOff(0, 0, 0));
    }

    private static void dueMembersOff(int decimals, int decimalsOfParts, int most) {
        for (int sign = -1; sign < 2; sign += 2) {
            Dimfacts x = Made.concepts(1);
            for (int member = 1; member < 4; member++) {
                x.tell(0, 9, member, 100 * member, decimalsOfParts);
            }
            x.tell(0, 9, 0, 600 + sign * most, decimals);
            Check.due(false, most + " apart", () -> x.areMembersOff(0, 9, 0));
            x.file();
            x.tell(0, 9, 0, 600 + sign * (most + 1), decimals);
            Check.due(true, "one more", () -> x.areMembersOff(0, 9, 1));
        }
    }

    private static void aRollRuleHasAStockAndAFlow() {
        Doc.says(TERMS, "A roll rule has a stock and a flow, two concepts");
        Dimfacts x = Made.concepts(12);
        Check.due(0, "the first and the last concept", () -> x.addRoll(0, 11));
        Check.due(1, "the last and the first", () -> x.addRoll(11, 0));
        x.tell(0, 0, 0, 100, 0);
        x.tell(0, 1, 0, 300, 0);
        x.tell(11, 1, 0, 200, 0);
        x.tell(11, 0, 0, 900, 0);
        Check.due(false, "100 and 200 are 300", () -> x.isRollOff(0, 1, 0, 0));
        Check.due(true, "900 and 300 are not 200", () -> x.isRollOff(1, 1, 0, 0));
        Refused.due(Check.ARGUMENT, "one concept as both", Made::some, y -> y.addRoll(1, 1));
        Refused.due(Check.BOUNDS, "a stock that is none", Made::some, y -> y.addRoll(4, 1));
        Refused.due(Check.BOUNDS, "a flow that is none", Made::some, y -> y.addRoll(1, 4));
    }

    private static void aRollIsOffIfMore() {
        Doc.says(TERMS, "It is off for a period from 1 to 9 and a member as of a filing if facts hold for the stock in this period "
            + "and the one before, and for the flow in this period, and 2 times the size of the difference of the stock in this period, "
            + "and the stock in the one before and the flow, together, is more than the doubts of all three together");
        dueRollOff(1, 0, 0, 1);
        dueRollOff(9, 0, 0, 1);
        dueRollOff(9, 1, 0, 10);
        dueRollOff(1, 0, 1, 6);
        dueRollOff(5, 4, 4, 15000);
        Dimfacts x = Made.concepts(2);
        x.addRoll(0, 1);
        for (int period = 0; period < 10; period++) {
            x.tell(0, period, 3, period % 2 == 0 ? 1000000 : -1000000, 0);
            x.tell(1, period, 3, period % 2 == 0 ? -1000000 : 1000000, 0);
        }
        Check.due(false, "the period 0 has none before it", () -> x.isRollOff(0, 0, 3, 0));
        for (int period = 1; period < 10; period++) {
            int at = period;
            Check.due(true, "as far as can be, in the period " + period, () -> x.isRollOff(0, at, 3, 0));
        }
    }

    private static void dueRollOff(int period, int decimals, int decimalsOfFlow, int most) {
        for (int sign = -1; sign < 2; sign += 2) {
            Dimfacts x = Made.concepts(2);
            x.addRoll(1, 0);
            x.tell(1, period - 1, 3, 500, decimals);
            x.tell(0, period, 3, -200, decimalsOfFlow);
            Check.due(false, "no stock in this period", () -> x.isRollOff(0, period, 3, 0));
            x.tell(1, period, 3, 300 + sign * most, decimals);
            Check.due(false, most + " apart in " + period, () -> x.isRollOff(0, period, 3, 0));
            x.file();
            x.tell(1, period, 3, 300 + sign * (most + 1), decimals);
            Check.due(true, "one more", () -> x.isRollOff(0, period, 3, 1));
        }
    }

    private static void theFirstNamedExceptionIsThrown() {
        Doc.says(TERMS, "If several exceptions apply to a call, the one that its throws clause names first is thrown; "
            + "a call that throws changes nothing");
        Refused.due(Check.BOUNDS, "hang: no such concept, itself", Made::full, x -> x.hang(12, 12, true));
        Refused.due(Check.BOUNDS, "hang: no such parent, itself", Made::full, x -> x.hang(-1, -1, true));
        Refused.due(Check.BOUNDS, "addRoll: bounds, the same, five", Made::full, x -> x.addRoll(12, 12));
        Refused.due(Check.BOUNDS, "addRoll: bounds, five", Made::full, x -> x.addRoll(0, 12));
        Refused.due(Check.ARGUMENT, "addRoll: the same, five", Made::full, x -> x.addRoll(11, 11));
        Refused.due(Check.BOUNDS, "tell: bounds, value, decimals, 80", Made::full, x -> x.tell(12, 0, 0, 1000001, 5));
        Refused.due(Check.BOUNDS, "tell: bounds of the period, value", Made::full, x -> x.tell(0, 10, 0, -1000001, 0));
        Refused.due(Check.BOUNDS, "tell: bounds of the member, decimals", Made::full, x -> x.tell(0, 0, 4, 0, -1));
        Refused.due(Check.BOUNDS, "tell: bounds, 80", Made::full, x -> x.tell(0, 0, -1, 0, 0));
        Refused.due(Check.ARGUMENT, "tell: value, 80", Made::full, x -> x.tell(0, 0, 0, 1000001, 0));
        Refused.due(Check.ARGUMENT, "tell: decimals, 80", Made::full, x -> x.tell(0, 0, 0, 0, 5));
        Refused.due(Check.BOUNDS, "value: no such filing, no fact", Made::full, x -> x.value(3, 0, 0, 8));
        Refused.due(Check.BOUNDS, "doubt: no such member, no fact", Made::full, x -> x.doubt(3, 0, 4, 7));
        Refused.due(Check.BOUNDS, "derived: no such period, no fact", Made::full, x -> x.derived(3, 10, 0, 7));
    }

    private static void aCallThatThrowsChangesNothing() {
        Doc.says(TERMS, "If several exceptions apply to a call, the one that its throws clause names first is thrown; "
            + "a call that throws changes nothing");
        Refused.due(Check.STATE, "addConcept", Made::full, Dimfacts::addConcept);
        Refused.due(Check.ARGUMENT, "hang, with another weight", Made::some, x -> x.hang(2, 3, true));
        Refused.due(Check.BOUNDS, "hang", Made::some, x -> x.hang(2, 4, true));
        Refused.due(Check.BOUNDS, "unhang", Made::some, x -> x.unhang(4));
        Refused.due(Check.STATE, "addRoll", Made::full, x -> x.addRoll(1, 0));
        Refused.due(Check.STATE, "file", Made::full, Dimfacts::file);
        Refused.due(Check.STATE, "tell", Made::full, x -> x.tell(0, 9, 3, 1, 0));
        Refused.due(Check.ARGUMENT, "tell", Made::some, x -> x.tell(0, 0, 0, 2000000, 0));
        Refused.due(Check.MISSING, "value", Made::some, x -> x.value(0, 9, 0, 1));
        Refused.due(Check.MISSING, "doubt", Made::some, x -> x.doubt(0, 9, 0, 1));
        Refused.due(Check.MISSING, "derived", Made::some, x -> x.derived(0, 9, 0, 1));
    }

    private static void throwsIndexOutOfBoundsIfThereIsNoSuch() {
        Doc.says(TERMS, "A method that takes a key, a filing, a concept or a rule throws IndexOutOfBoundsException "
            + "if there is no such concept, period, member, filing or rule");
        Dimfacts x = Made.corners();
        for (int c = 0; c < 12; c += 11) {
            for (int p = 0; p < 10; p += 9) {
                for (int m = 0; m < 4; m += 3) {
                    for (int f = 0; f < 8; f += 7) {
                        int[] k = {c, p, m, f};
                        Check.due(Made.corner(c, p, m, f), "the first and the last are there", () -> x.value(k[0], k[1], k[2], k[3]));
                    }
                }
            }
        }
        Check.due(false, "the first rule is there", () -> x.isRollOff(0, 9, 3, 7));
        Check.due(false, "the last rule is there", () -> x.isRollOff(4, 9, 3, 7));
        Refused.due(Check.BOUNDS, "the next concept", Made::corners, y -> y.value(12, 9, 3, 7));
        Refused.due(Check.BOUNDS, "the next period", Made::corners, y -> y.value(11, 10, 3, 7));
        Refused.due(Check.BOUNDS, "the next member", Made::corners, y -> y.value(11, 9, 4, 7));
        Refused.due(Check.BOUNDS, "the next filing", Made::corners, y -> y.value(11, 9, 3, 8));
        Refused.due(Check.BOUNDS, "the next rule", Made::corners, y -> y.isRollOff(5, 9, 3, 7));
    }

    private static void constantNone() {
        Doc.says(TERMS, "The constants: `NONE = -1`: There is none");
        Check.due(-1, "NONE", () -> Dimfacts.NONE);
        Check.due(-1, "what a concept hangs under that hangs under none", () -> Made.concepts(1).unhang(0));
    }

    private static void theHeadingsAheadOfTheCalls() {
        Doc.says(TERMS, "Ahead of the calls `addConcept`, `hang`, `unhang`, `addRoll` the interface says: ---- concepts and rules");
        dueBelow("---- concepts and rules", "[addConcept, hang, unhang, addRoll]");
        Doc.says(TERMS, "Ahead of the calls `file`, `tell`, `disagreements`, `restated` the interface says: ---- filings and facts");
        dueBelow("---- filings and facts", "[file, tell, disagreements, restated]");
        Doc.says(TERMS, "Ahead of the calls `value`, `doubt`, `sum`, `derived` the interface says: ---- values and sums");
        dueBelow("---- values and sums", "[value, doubt, sum, derived]");
        Doc.says(TERMS, "Ahead of the calls `isSumOff`, `areMembersOff`, `isRollOff`, `faults`, `faultsByList` "
            + "the interface says: ---- faults");
        dueBelow("---- faults", "[isSumOff, areMembersOff, isRollOff, faults, faultsByList]");
    }

    private static void dueBelow(String heading, String names) {
        Check.due(names, "the methods below the heading", () -> Source.publicBelow(heading));
    }
}
