/** Promises 11 (returned), 12 (row) and 13 (difference). */
public final class ReturnTest {
    private static final String RULES = "rate 1 from 0 to 10000 pay 1000;small 2 below 5 times 50;"
            + "rate 2 from 0 to 10000 pay 1000;";

    public static void main(String[] args) {
        refused();
        whichLots();
        asKnownOnTheGreatestDay();
        roundedDownOnTheLastDay();
        changes();
        changesWithOpenRows();
        returnsOfMonths();
        rowsStay();
        differences();
        manyMonths();
        Checks.end();
    }

    private static void refused() {
        DutyRules x = Checks.withEdition(RULES, 0);
        Checks.tellFacts(x, 2, 0, 1, 0, 100);
        Checks.due("returned", x.returned(0), 1);
        int[] noMonths = {-1, 3001, Integer.MIN_VALUE, Integer.MAX_VALUE};
        for (int month : noMonths) {
            Checks.due("returned(" + month + ")", x.returned(month), DutyRules.NONE);
            Checks.due("difference of " + month, x.difference(month, 50), 0);
        }
        Checks.dueRow(x, 0, 2, 1, 0);
        Checks.dueRow(x, 1, -1, -1, -1);
        Checks.dueRow(x, -1, -1, -1, -1);
        Checks.dueRow(x, Integer.MIN_VALUE, -1, -1, -1);
        Checks.dueRow(x, Integer.MAX_VALUE, -1, -1, -1);
        Checks.due("another what", x.row(0, 3), -1);
        Checks.due("another what", x.row(0, -1), -1);
        Checks.due("month 3000", x.returned(3000), 0);
        Checks.dueRow(x, 0, -1, -1, -1);
    }

    private static void whichLots() {
        DutyRules x = Checks.withEdition(RULES, 0);
        Checks.tellFacts(x, 9, 29, 1, 0, 100);
        Checks.tellFacts(x, 8, 30, 1, 0, 200);
        Checks.tellFacts(x, 7, 59, 1, 0, 300);
        Checks.tellFacts(x, 6, 60, 1, 0, 400);
        Checks.tellFacts(x, 5, 45, 1, 0);
        x.fact(4, 2, 45, 100, 1);
        x.fact(3, 3, 45, 100, 1);
        x.fact(29, 2, 45, 0, 1);
        x.told(29, 2, 99999);
        x.fact(8, 2, 31, 500, 1);
        Checks.due("returned(1)", x.returned(1), 4);
        Checks.dueRow(x, 0, 4, Checks.LEAST, 0);
        Checks.dueRow(x, 1, 7, 3, 0);
        Checks.dueRow(x, 2, 8, 5, 0);
        Checks.dueRow(x, 3, 29, Checks.LEAST, 0);
        Checks.dueRow(x, 4, -1, -1, -1);
        Checks.due("returned(0)", x.returned(0), 1);
        Checks.dueRow(x, 0, 9, 1, 0);
        Checks.due("returned(2)", x.returned(2), 1);
        Checks.dueRow(x, 0, 6, 4, 0);
        Checks.due("returned(3)", x.returned(3), 0);
        Checks.tellFacts(x, 1, 90029, 1, 0, 700);
        Checks.tellFacts(x, 2, 90030, 1, 0, 700);
        Checks.due("returned(3000)", x.returned(3000), 1);
        Checks.dueRow(x, 0, 1, 7, 0);
    }

    private static void asKnownOnTheGreatestDay() {
        DutyRules x = Checks.withEdition(RULES, 0);
        Checks.tellFacts(x, 0, 10, 1, 0, 100);
        x.fact(0, 2, 11, 200, 1);
        x.told(0, 2, 5000);
        Checks.due("returned", x.returned(0), 1);
        Checks.dueRow(x, 0, 0, 2, 0);
        x.fact(0, 2, 12, 300, 1);
        x.fact(1, 5, 8000, 1, 1);
        Checks.due("returned", x.returned(0), 1);
        Checks.dueRow(x, 0, 0, 3, 1);
        x.told(0, 2, 100000);
        Checks.due("returned", x.returned(0), 1);
        Checks.dueRow(x, 0, 0, 3, 0);
    }

    private static void roundedDownOnTheLastDay() {
        DutyRules x = Checks.withEdition("rate 1 from 0 to 10000 pay 999;", 29);
        Checks.tellFacts(x, 0, 3, 1, 0, 1000);
        Checks.due("returned", x.returned(0), 1);
        Checks.dueRow(x, 0, 0, 9, 0);
        Checks.readText(x, "rate 1 from 0 to 10000 pay 5000;");
        x.edition(30);
        x.returned(0);
        Checks.dueRow(x, 0, 0, 9, 0);
        x.fact(0, 2, 29, 2000, 1);
        x.fact(0, 2, 30, 3000, 1);
        x.returned(0);
        Checks.dueRow(x, 0, 0, 19, 10);
        x.returned(1);
        Checks.dueRow(x, 0, 0, 150, 0);
    }

    private static void changes() {
        DutyRules x = Checks.withEdition(RULES, 0);
        Checks.tellFacts(x, 1, 0, 1, 0, 500);
        x.returned(0);
        Checks.dueRow(x, 0, 1, 5, 0);
        x.fact(1, 2, 0, 300, 1);
        Checks.tellFacts(x, 0, 0, 1, 0, 400);
        Checks.due("returned", x.returned(0), 2);
        Checks.dueRow(x, 0, 0, 4, 0);
        Checks.dueRow(x, 1, 1, 3, -2);
        x.returned(0);
        Checks.dueRow(x, 0, 0, 4, 0);
        Checks.dueRow(x, 1, 1, 3, 0);
    }

    private static void changesWithOpenRows() {
        DutyRules x = Checks.withEdition(RULES, 0);
        Checks.tellFacts(x, 1, 0, 2, 0, 500);
        x.returned(0);
        Checks.dueRow(x, 0, 1, Checks.LEAST, 0);
        Checks.due("difference of an open row", x.difference(0, 100), 0);
        x.fact(1, 3, 0, 9, 1);
        x.returned(0);
        Checks.dueRow(x, 0, 1, 5, 0);
        x.fact(1, 0, 0, 3, 1);
        x.returned(0);
        Checks.dueRow(x, 0, 1, Checks.LEAST, 0);
        x.returned(0);
        Checks.dueRow(x, 0, 1, Checks.LEAST, 0);
    }

    private static void returnsOfMonths() {
        DutyRules x = Checks.withEdition(RULES, 0);
        Checks.tellFacts(x, 1, 0, 1, 0, 500);
        x.returned(0);
        x.fact(1, 2, 30, 700, 1);
        x.returned(1);
        Checks.dueRow(x, 0, 1, 7, 0);
        x.fact(1, 2, 0, 900, 1);
        x.returned(0);
        Checks.dueRow(x, 0, 1, 9, 4);
        x.returned(1);
        Checks.dueRow(x, 0, 1, 7, 0);
        x.returned(2);
        Checks.dueRow(x, 0, -1, -1, -1);
    }

    private static void rowsStay() {
        DutyRules x = Checks.withEdition(RULES, 0);
        Checks.tellFacts(x, 1, 0, 1, 0, 500);
        x.returned(0);
        x.fact(1, 2, 0, 900, 1);
        Checks.tellFacts(x, 0, 0, 1, 0, 400);
        Checks.readText(x, "");
        x.edition(0);
        x.duty(1, 29, 29, 0);
        x.difference(0, 29);
        Checks.dueRow(x, 0, 1, 5, 0);
        Checks.dueRow(x, 1, -1, -1, -1);
    }

    private static void differences() {
        DutyRules x = Checks.withEdition("rate 1 from 0 to 10000 pay 999;", 0);
        Checks.tellFacts(x, 1, 0, 1, 0, 1000);
        Checks.tellFacts(x, 2, 5, 1, 0, 2000);
        x.returned(0);
        Checks.due("difference as known on 29", x.difference(0, 29), 0);
        Checks.due("difference as known on 5", x.difference(0, 5), 0);
        Checks.due("difference as known on 4", x.difference(0, 4), -19);
        Checks.due("difference without that return", x.difference(1, 4), 0);
        Checks.due("no such day", x.difference(0, -1), 0);
        Checks.due("no such day", x.difference(0, 100001), 0);
        Checks.due("no such day", x.difference(0, 1L << 32), 0);
        Checks.due("no such day", x.difference(0, Long.MIN_VALUE), 0);
        x.fact(1, 2, 20, 5000, 1);
        x.told(1, 2, 70);
        Checks.tellFacts(x, 3, 0, 1, 0, 9000);
        x.fact(2, 2, 30, 7000, 1);
        Checks.due("difference before it is known", x.difference(0, 69), 0);
        Checks.due("difference when it is known", x.difference(0, 70), 40);
        Checks.due("difference on the last day", x.difference(0, 100000), 40);
        x.returned(1);
        Checks.due("a month whose return is not the last", x.difference(0, 70), 40);
        Checks.readText(x, "rate 1 from 0 to 10000 pay 2000;");
        x.edition(0);
        Checks.due("by a new edition", x.difference(0, 29), 32);
        x.returned(0);
        Checks.due("behind a new return", x.difference(0, 100000), 0);
        Checks.due("behind a new return, before", x.difference(0, 69), -80);
    }

    private static void manyMonths() {
        DutyRules x = Checks.withEdition(RULES, 0);
        for (int i = 0; i < 90; i++) {
            Checks.tellFacts(x, i % 30, i * 30, 1, 0, 100 * (i + 1));
        }
        for (int month = 0; month <= 3000; month++) {
            Checks.due("returned(" + month + ")", x.returned(month), month < 90 ? 1 : 0);
        }
        x.fact(5, 2, 35 * 30, 100, 1);
        x.returned(35);
        Checks.dueRow(x, 0, 5, 1, -35);
    }
}
