/** Promises 5 (fact) and 6 (told). */
public final class FactTest {
    private static final String RATES = "rate 1 from 0 to 10000 pay 1000;rate 2 from 0 to 10000 pay 5000;";

    public static void main(String[] args) {
        refusedFacts();
        ranges();
        fractions();
        threeHundred();
        whichHoldsByDay();
        knownFromItsDay();
        refusedTold();
        toldChangesTheLast();
        ofOneDayTheLastToldThatIsKnown();
        Checks.end();
    }

    private static void dueFact(DutyRules x, int lot, int kind, long day, long above, long below,
            boolean want) {
        Checks.due("fact(" + lot + ", " + kind + ", " + day + ", " + above + ", " + below + ")",
                x.fact(lot, kind, day, above, below), want);
    }

    private static void refusedFacts() {
        DutyRules x = new DutyRules();
        int[] noLots = {-1, 30, Integer.MIN_VALUE, Integer.MAX_VALUE};
        for (int lot : noLots) {
            dueFact(x, lot, 0, 0, 1, 1, false);
        }
        int[] noKinds = {-1, 6, Integer.MIN_VALUE, Integer.MAX_VALUE};
        for (int kind : noKinds) {
            dueFact(x, 0, kind, 0, 1, 1, false);
        }
        long[] noDays = {-1, 100001, Long.MIN_VALUE, Long.MAX_VALUE, 1L << 32};
        for (long day : noDays) {
            dueFact(x, 0, 0, day, 1, 1, false);
        }
        long[] noBelows = {0, -1, 101, Long.MIN_VALUE, Long.MAX_VALUE, (1L << 32) + 1};
        for (long below : noBelows) {
            dueFact(x, 0, 0, 0, 0, below, false);
        }
        dueFact(x, 29, 5, 100000, 0, 100, true);
        Checks.due("told of the one that was taken", x.told(29, 5, 0), true);
        Checks.due("told of a refused one", x.told(0, 0, 0), false);
    }

    private static void ranges() {
        DutyRules x = new DutyRules();
        long[] greatest = {9, 10000, 1000000, 100000000, 1000000, 1000000};
        for (int kind = 0; kind < 6; kind++) {
            dueFact(x, 0, kind, 0, 0, 1, true);
            dueFact(x, 0, kind, 0, greatest[kind], 1, true);
            dueFact(x, 0, kind, 0, greatest[kind] * 100, 100, true);
            dueFact(x, 0, kind, 0, greatest[kind] + 1, 1, false);
            dueFact(x, 0, kind, 0, (greatest[kind] + 1) * 100, 100, false);
            dueFact(x, 0, kind, 0, -1, 1, false);
            dueFact(x, 0, kind, 0, Long.MAX_VALUE, 1, false);
            dueFact(x, 0, kind, 0, Long.MIN_VALUE, 1, false);
            dueFact(x, 0, kind, 0, (1L << 32) + 1, 1, false);
        }
    }

    private static void fractions() {
        DutyRules x = Checks.withEdition(RATES, 0);
        dueFact(x, 0, 0, 0, 3, 2, false);
        dueFact(x, 0, 0, 0, 1, 100, false);
        dueFact(x, 0, 0, 0, -1, 2, false);
        dueFact(x, 0, 0, 0, 4, 2, true);
        dueFact(x, 0, 1, 0, 0, 7, true);
        dueFact(x, 0, 2, 0, 70000, 100, true);
        Checks.dueDuty(x, 0, 0, 0, 35, 1);
    }

    private static void threeHundred() {
        DutyRules x = new DutyRules();
        for (int i = 0; i < 300; i++) {
            dueFact(x, i % 30, i % 6, i, 1, 1, true);
            dueFact(x, i % 30, i % 6, i, 1, 2, false);
        }
        dueFact(x, 0, 0, 0, 1, 1, false);
        Checks.due("told behind 300 facts", x.told(0, 0, 5), true);
        dueFact(x, 0, 0, 0, 1, 1, false);
    }

    private static void whichHoldsByDay() {
        DutyRules x = Checks.withEdition(RATES, 0);
        Checks.tellFacts(x, 0, 10, 1, 0, 100);
        dueFact(x, 0, 2, 20, 300, 1, true);
        dueFact(x, 0, 2, 15, 200, 1, true);
        Checks.dueOpen(x, 0, 9, 100, 0);
        Checks.dueDuty(x, 0, 10, 100, 1, 1);
        Checks.dueDuty(x, 0, 14, 100, 1, 1);
        Checks.dueDuty(x, 0, 15, 100, 2, 1);
        Checks.dueDuty(x, 0, 19, 100, 2, 1);
        Checks.dueDuty(x, 0, 20, 100, 3, 1);
        Checks.dueDuty(x, 0, 100000, 100, 3, 1);
        Checks.dueOpen(x, 1, 20, 100, 0);
    }

    private static void knownFromItsDay() {
        DutyRules x = Checks.withEdition(RATES, 0);
        Checks.tellFacts(x, 0, 10, 1, 0, 100);
        dueFact(x, 0, 2, 20, 300, 1, true);
        Checks.dueOpen(x, 0, 30, 9, 0);
        Checks.dueDuty(x, 0, 30, 10, 1, 1);
        Checks.dueDuty(x, 0, 30, 19, 1, 1);
        Checks.dueDuty(x, 0, 30, 20, 3, 1);
    }

    private static void dueTold(DutyRules x, int lot, int kind, long on, boolean want) {
        Checks.due("told(" + lot + ", " + kind + ", " + on + ")", x.told(lot, kind, on), want);
    }

    private static void refusedTold() {
        DutyRules x = Checks.withEdition(RATES, 0);
        Checks.tellFacts(x, 0, 10, 1, 0, 100);
        dueTold(x, 0, 3, 0, false);
        dueTold(x, 1, 0, 0, false);
        dueTold(x, -1, 0, 0, false);
        dueTold(x, 30, 0, 0, false);
        dueTold(x, 0, -1, 0, false);
        dueTold(x, 0, 6, 0, false);
        dueTold(x, 1, -6, 0, false);
        dueTold(x, Integer.MIN_VALUE, Integer.MAX_VALUE, 0, false);
        dueTold(x, 0, 0, -1, false);
        dueTold(x, 0, 0, 100001, false);
        dueTold(x, 0, 0, Long.MIN_VALUE, false);
        dueTold(x, 0, 0, 1L << 32, false);
        Checks.dueDuty(x, 0, 10, 10, 1, 1);
        Checks.dueOpen(x, 0, 10, 9, 0);
        dueTold(x, 0, 0, 0, true);
        dueTold(x, 0, 0, 100000, true);
        Checks.dueOpen(x, 0, 10, 99999, 0);
        Checks.dueDuty(x, 0, 10, 100000, 1, 1);
    }

    private static void toldChangesTheLast() {
        DutyRules x = Checks.withEdition(RATES, 0);
        Checks.tellFacts(x, 0, 10, 1, 0, 100);
        dueFact(x, 0, 2, 30, 300, 1, true);
        dueFact(x, 0, 2, 20, 200, 1, true);
        dueTold(x, 0, 2, 50, true);
        Checks.dueDuty(x, 0, 29, 49, 1, 1);
        Checks.dueDuty(x, 0, 29, 50, 2, 1);
        Checks.dueDuty(x, 0, 30, 30, 3, 1);
        dueTold(x, 0, 2, 15, true);
        Checks.dueDuty(x, 0, 29, 14, 1, 1);
        Checks.dueDuty(x, 0, 29, 15, 2, 1);
    }

    private static void ofOneDayTheLastToldThatIsKnown() {
        DutyRules x = Checks.withEdition(RATES, 0);
        Checks.tellFacts(x, 0, 10, 1, 0, 100);
        dueFact(x, 0, 2, 10, 200, 1, true);
        Checks.dueDuty(x, 0, 10, 10, 2, 1);
        dueFact(x, 0, 2, 10, 300, 1, true);
        dueTold(x, 0, 2, 40, true);
        Checks.dueDuty(x, 0, 10, 39, 2, 1);
        Checks.dueDuty(x, 0, 10, 40, 3, 1);
        Checks.dueDuty(x, 0, 40, 40, 3, 1);
    }
}
