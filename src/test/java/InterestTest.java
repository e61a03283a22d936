/** Promise 15: interest. */
public final class InterestTest {
    private static final String RULES = "rate 1 from 0 to 10000 pay 1000;late 3;";

    public static void main(String[] args) {
        refused();
        ordinary();
        withoutLateRule();
        ofWhichEdition();
        rowsOfTheLastReturn();
        greatest();
        Checks.end();
    }

    private static void refused() {
        DutyRules x = Checks.withEdition(RULES, 0);
        Checks.tellFacts(x, 1, 0, 1, 0, 100);
        Checks.dueInterest(x, 0, 50, Checks.LEAST, Checks.LEAST);
        x.returned(0);
        Checks.dueInterest(x, 0, 50, 63, 100);
        Checks.dueInterest(x, 1, 50, Checks.LEAST, Checks.LEAST);
        Checks.dueInterest(x, -1, 50, Checks.LEAST, Checks.LEAST);
        Checks.dueInterest(x, 3001, 50, Checks.LEAST, Checks.LEAST);
        Checks.dueInterest(x, Integer.MAX_VALUE, 50, Checks.LEAST, Checks.LEAST);
        Checks.dueInterest(x, 0, -1, Checks.LEAST, Checks.LEAST);
        Checks.dueInterest(x, 0, 100001, Checks.LEAST, Checks.LEAST);
        Checks.dueInterest(x, 0, 1L << 32, Checks.LEAST, Checks.LEAST);
        Checks.due("another part", x.interest(0, 50, 2), Checks.LEAST);
        Checks.due("another part", x.interest(0, 50, -1), Checks.LEAST);
        Checks.due("another part, not behind", x.interest(0, 5, 2), Checks.LEAST);
        Checks.due("refused return", x.returned(3001), DutyRules.NONE);
        Checks.dueInterest(x, 3001, 50, Checks.LEAST, Checks.LEAST);
    }

    private static void ordinary() {
        DutyRules x = Checks.withEdition(RULES, 0);
        Checks.tellFacts(x, 1, 30, 1, 0, 199);
        Checks.tellFacts(x, 2, 30, 1, 0, 500);
        x.fact(3, 2, 30, 500, 1);
        Checks.due("rows", x.returned(1), 3);
        Checks.dueInterest(x, 1, 0, 0, 1);
        Checks.dueInterest(x, 1, 58, 0, 1);
        Checks.dueInterest(x, 1, 59, 0, 1);
        Checks.dueInterest(x, 1, 60, 9, 50);
        Checks.dueInterest(x, 1, 61, 9, 25);
        Checks.dueInterest(x, 1, 109, 9, 1);
        x.returned(0);
        Checks.dueInterest(x, 0, 100, 0, 1);
        Checks.dueInterest(x, 1, 109, 9, 1);
    }

    private static void withoutLateRule() {
        DutyRules x = Checks.withEdition("rate 1 from 0 to 10000 pay 1000;", 30);
        Checks.tellFacts(x, 1, 0, 1, 0, 100);
        x.fact(1, 2, 30, 100, 1);
        x.returned(0);
        x.returned(1);
        Checks.dueInterest(x, 0, 100, 0, 1);
        Checks.dueInterest(x, 1, 100, 0, 1);
        Checks.readText(x, "late 0;rate 1 from 0 to 10000 pay 1000;");
        x.edition(30);
        Checks.dueInterest(x, 1, 100, 0, 1);
    }

    private static void ofWhichEdition() {
        DutyRules x = Checks.withEdition(RULES, 0);
        Checks.tellFacts(x, 1, 0, 1, 0, 1000);
        x.returned(0);
        Checks.readText(x, "late 7;");
        x.edition(30);
        Checks.dueInterest(x, 0, 39, 3, 1);
        x.edition(29);
        Checks.dueInterest(x, 0, 39, 7, 1);
    }

    private static void rowsOfTheLastReturn() {
        DutyRules x = Checks.withEdition(RULES, 0);
        Checks.tellFacts(x, 1, 0, 1, 0, 1000);
        x.returned(0);
        x.fact(1, 2, 0, 2000, 1);
        Checks.dueInterest(x, 0, 39, 3, 1);
        x.returned(0);
        Checks.dueInterest(x, 0, 39, 6, 1);
    }

    private static void greatest() {
        DutyRules x = Checks.withEdition("late 100;rate 1 from 0 to 10000 pay 1000000;", 0);
        for (int lot = 0; lot < 30; lot++) {
            Checks.tellFacts(x, lot, 0, 1, 0, 1000000);
        }
        Checks.due("rows", x.returned(0), 30);
        Checks.dueInterest(x, 0, 100000, 300000000L * 99971L, 1);
    }
}
