/** Promise 10: allowed. */
public final class AllowedTest {
    private static final String RULES = "rate 1 from 0 to 10000 pay 1000;loss 1 upto 3;"
            + "rate 2 from 0 to 10000 pay 0;loss 2 upto 50;small 3 below 5 times 5;"
            + "rate 3 from 0 to 10000 pay 1;loss 3 upto 5;rate 4 from 0 to 10000 pay 1;";

    public static void main(String[] args) {
        refused();
        together();
        onTheLastDayAsKnownThen();
        byTheEditionOfTheLastDay();
        Checks.end();
    }

    private static void refused() {
        DutyRules x = Checks.withEdition(RULES, 0);
        Checks.tellFacts(x, 0, 0, 1, 0, 10000, -1, 100);
        Checks.dueAllowed(x, 0, 1, 1);
        Checks.dueAllowed(x, 3000, 1, 1);
        Checks.dueAllowed(x, -1, -1, -1);
        Checks.dueAllowed(x, 3001, -1, -1);
        Checks.dueAllowed(x, Integer.MIN_VALUE, -1, -1);
        Checks.dueAllowed(x, Integer.MAX_VALUE, -1, -1);
        Checks.due("another part", x.allowed(0, 2), -1);
        Checks.due("another part", x.allowed(0, -1), -1);
    }

    private static void together() {
        DutyRules x = Checks.withEdition(RULES, 0);
        Checks.dueAllowed(x, 0, 0, 1);
        Checks.tellFacts(x, 0, 0, 1, 0, 101, -1, 1000);
        Checks.dueAllowed(x, 0, 303, 10000);
        Checks.tellFacts(x, 29, 0, 2, 0, 1000, -1, 100);
        Checks.dueAllowed(x, 0, 10303, 10000);
        Checks.tellFacts(x, 5, 0, 3, 0, 1000, -1, 100);
        Checks.dueAllowed(x, 0, 10303, 10000);
        Checks.tellFacts(x, 6, 0, 4, 0, 1000, -1, 100);
        Checks.dueAllowed(x, 0, 10303, 10000);
        x.fact(5, 3, 0, 1, 1);
        Checks.dueAllowed(x, 0, 15303, 10000);
        DutyRules all = Checks.withEdition("rate 1 from 0 to 10000 pay 1;loss 1 upto 100;", 0);
        for (int lot = 0; lot < 30; lot++) {
            Checks.tellFacts(all, lot, 0, 1, 0, 1000000, -1, 1000000);
        }
        Checks.dueAllowed(all, 0, 300000, 1);
    }

    private static void onTheLastDayAsKnownThen() {
        DutyRules x = Checks.withEdition(RULES, 0);
        Checks.tellFacts(x, 0, 59, 1, 0, 10000, -1, 100);
        Checks.dueAllowed(x, 0, 0, 1);
        Checks.dueAllowed(x, 1, 1, 1);
        Checks.dueAllowed(x, 2, 1, 1);
        x.fact(0, 4, 59, 200, 1);
        x.told(0, 4, 60);
        Checks.dueAllowed(x, 1, 1, 1);
        Checks.dueAllowed(x, 2, 2, 1);
        x.fact(0, 4, 60, 300, 1);
        x.told(0, 4, 0);
        Checks.dueAllowed(x, 1, 1, 1);
        Checks.dueAllowed(x, 2, 3, 1);
    }

    private static void byTheEditionOfTheLastDay() {
        DutyRules x = Checks.withEdition(RULES, 29);
        Checks.tellFacts(x, 0, 0, 1, 0, 10000, -1, 10000);
        Checks.dueAllowed(x, 0, 3, 1);
        Checks.readText(x, "rate 1 from 0 to 10000 pay 1000;loss 1 upto 7;");
        x.edition(30);
        Checks.dueAllowed(x, 0, 3, 1);
        Checks.dueAllowed(x, 1, 7, 1);
        DutyRules none = Checks.withEdition(RULES, 30);
        Checks.tellFacts(none, 0, 0, 1, 0, 10000, -1, 10000);
        Checks.dueAllowed(none, 0, 0, 1);
    }
}
