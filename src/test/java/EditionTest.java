/** Promise 4: edition. */
public final class EditionTest {
    public static void main(String[] args) {
        numbersAndLimits();
        whichHolds();
        ofOneDay();
        editionOfNothing();
        editionIsOfWhatWasReadThen();
        Checks.end();
    }

    private static void numbersAndLimits() {
        DutyRules x = new DutyRules();
        long[] refused = {-1, 100001, Long.MIN_VALUE, Long.MAX_VALUE, 1L << 32};
        for (long day : refused) {
            Checks.due("edition(" + day + ")", x.edition(day), DutyRules.NONE);
        }
        for (int i = 0; i < 10; i++) {
            Checks.due("edition " + i, x.edition(i == 0 ? 100000 : 0), i);
        }
        Checks.due("edition 10", x.edition(0), DutyRules.FULL);
        Checks.due("edition 10", x.edition(5), DutyRules.FULL);
        Checks.due("no day when full", x.edition(-1), DutyRules.NONE);
    }

    private static void tellEdition(DutyRules x, int pay, long from) {
        Checks.readText(x, "rate 1 from 0 to 10000 pay " + pay + ";");
        x.edition(from);
    }

    private static void whichHolds() {
        DutyRules x = new DutyRules();
        Checks.tellFacts(x, 0, 0, 1, 5, 100);
        tellEdition(x, 2000, 20);
        tellEdition(x, 1000, 10);
        tellEdition(x, 3000, 100000);
        Checks.dueOpen(x, 0, 9, 100000, 20);
        Checks.dueDuty(x, 0, 10, 0, 1, 1);
        Checks.dueDuty(x, 0, 19, 0, 1, 1);
        Checks.dueDuty(x, 0, 20, 0, 2, 1);
        Checks.dueDuty(x, 0, 99999, 0, 2, 1);
        Checks.dueDuty(x, 0, 100000, 0, 3, 1);
    }

    private static void ofOneDay() {
        DutyRules x = new DutyRules();
        Checks.tellFacts(x, 0, 0, 1, 5, 100);
        tellEdition(x, 1000, 10);
        tellEdition(x, 2000, 10);
        Checks.dueDuty(x, 0, 10, 10, 2, 1);
        tellEdition(x, 7000, 0);
        Checks.dueDuty(x, 0, 10, 10, 2, 1);
        Checks.dueDuty(x, 0, 0, 10, 7, 1);
    }

    private static void editionOfNothing() {
        DutyRules x = new DutyRules();
        Checks.due("edition of no rules", x.edition(0), 0);
        Checks.tellFacts(x, 0, 0, 1, 5, 100);
        Checks.dueOpen(x, 0, 0, 0, 21);
        tellEdition(x, 1000, 0);
        Checks.dueDuty(x, 0, 0, 0, 1, 1);
        Checks.due("read of no text", x.read(), 0);
        x.edition(0);
        Checks.dueOpen(x, 0, 0, 0, 21);
    }

    private static void editionIsOfWhatWasReadThen() {
        DutyRules x = new DutyRules();
        Checks.tellFacts(x, 0, 0, 1, 5, 100);
        tellEdition(x, 1000, 0);
        Checks.readText(x, "rate 1 from 0 to 10000 pay 5000;");
        Checks.dueDuty(x, 0, 0, 0, 1, 1);
        Checks.readText(x, "rate 1 from 0 to 10000 pay 9000; late");
        Checks.due("edition behind a wrong text", x.edition(0), 1);
        Checks.dueDuty(x, 0, 0, 0, 5, 1);
    }
}
