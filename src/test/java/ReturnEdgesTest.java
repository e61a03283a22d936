/** The boundary cases of returns: a test for each sentence of Terms and of promises 11, 12, 13 and 15. */
public final class ReturnEdgesTest {
    private static final int NONE = DutyRules.NONE;
    private static final long LEAST = Checks.LEAST;
    private static final String PLAIN = "rate 1 from 0 to 10000 pay 1000;";
    private static final int[] NO_MONTHS = {-1, 3001, 3002, -30, 143165577, Integer.MIN_VALUE, Integer.MIN_VALUE + 1,
        Integer.MAX_VALUE, Integer.MAX_VALUE - 1, 1 << 16, -(1 << 16)};

    public static void main(String[] args) {
        returnOfNoMonth();
        returnOfEdgeMonths();
        daysOfMonths();
        litresOfWhateverKnowledge();
        noRows();
        rowsOfAllLots();
        inThePlaceOfTheReturnBefore();
        asKnownOnTheGreatestDay();
        rowBefore();
        rowsOutOfRange();
        rowOfAnotherWhat();
        rowOfTheLastReturn();
        rowsThatAreOpen();
        rowsRoundedDown();
        rowsOfTheLastDay();
        noReturnBefore();
        oneWasOpen();
        changeDownAndUp();
        differenceWithoutReturn();
        differenceOnNoDay();
        differenceOfOpenRows();
        differenceOfOpenDuties();
        differenceOfLotsWithoutRow();
        differenceRoundedDown();
        differenceOnTheLastDay();
        differenceOfTheLastReturnOfAMonth();
        interestWithoutReturn();
        interestOnNoDay();
        interestOfNoPart();
        interestWithoutLateRule();
        interestWhenNotBehind();
        interestOfOpenRows();
        interestByTheEditionOfTheLastDay();
        interestOfTheLastReturn();
        interestReduced();
        greatestInterest();
        Checks.end();
    }

    /** With goods 1 and strength 0 in all lots, but no litres. */
    private static DutyRules withGoods(String text) {
        DutyRules x = Checks.withEdition(text, 0);
        for (int lot = 0; lot < 30; lot++) {
            Checks.tellFacts(x, lot, 0, 1, 0);
        }
        return x;
    }

    private static void litres(DutyRules x, int lot, long day, int hundredths) {
        Checks.due("litres of lot " + lot, x.fact(lot, 2, day, hundredths, 1), true);
    }

    private static void dueReturned(DutyRules x, int month, int rows) {
        Checks.due("returned(" + month + ")", x.returned(month), rows);
    }

    private static void dueDifference(DutyRules x, int month, long on, long want) {
        Checks.due("difference(" + month + ", " + on + ")", x.difference(month, on), want);
    }

    private static void returnOfNoMonth() {
        Checks.sentence("11: NONE, refused, when the month is not 0 .. 3,000.");
        DutyRules x = withGoods(PLAIN);
        litres(x, 3, 0, 500);
        for (int month : NO_MONTHS) {
            dueReturned(x, month, NONE);
            Checks.dueRow(x, 0, NONE, NONE, NONE);
        }
        dueReturned(x, 0, 1);
        litres(x, 3, 0, 700);
        dueReturned(x, 0, 1);
        for (int month : NO_MONTHS) {
            dueReturned(x, month, NONE);
            Checks.dueRow(x, 0, 3, 7, 2);
            Checks.dueRow(x, 1, NONE, NONE, NONE);
            dueDifference(x, month, 0, 0);
            Checks.dueInterest(x, month, 100000, LEAST, LEAST);
        }
    }

    private static void returnOfEdgeMonths() {
        Checks.sentence("11: the month .. 0 .. 3,000");
        DutyRules x = withGoods(PLAIN);
        litres(x, 3, 0, 500);
        litres(x, 4, 90000, 600);
        litres(x, 5, 90029, 700);
        litres(x, 6, 90030, 800);
        litres(x, 7, 100000, 900);
        dueReturned(x, 0, 1);
        Checks.dueRow(x, 0, 3, 5, 0);
        dueReturned(x, 3000, 2);
        Checks.dueRow(x, 0, 4, 6, 0);
        Checks.dueRow(x, 1, 5, 7, 0);
    }

    private static void daysOfMonths() {
        Checks.sentence("Terms: MONTH m has the days 30 * m .. 30 * m + 29. 11: a row for each lot with litres of a day in that month");
        int[] months = {0, 1, 2, 99, 2999};
        for (int month : months) {
            DutyRules x = withGoods(PLAIN);
            if (month > 0) {
                litres(x, 9, 30L * month - 1, 100);
            }
            litres(x, 8, 30L * month, 200);
            litres(x, 7, 30L * month + 15, 300);
            litres(x, 6, 30L * month + 29, 400);
            litres(x, 5, 30L * month + 30, 500);
            dueReturned(x, month, 3);
            Checks.dueRow(x, 0, 6, 4, 0);
            Checks.dueRow(x, 1, 7, 3, 0);
            Checks.dueRow(x, 2, 8, 2, 0);
            dueReturned(x, month + 1, 1);
            Checks.dueRow(x, 0, 5, 5, 0);
        }
    }

    private static void litresOfWhateverKnowledge() {
        Checks.sentence("11: litres of a day in that month, told of whatever knowledge");
        DutyRules x = withGoods(PLAIN);
        litres(x, 1, 5, 100);
        x.told(1, 2, 100000);
        litres(x, 2, 59, 200);
        x.told(2, 2, 0);
        litres(x, 3, 29, 0);
        Checks.tellFacts(x, 4, 5, 1, 0, -1, 7, 8, 9);
        dueReturned(x, 0, 2);
        Checks.dueRow(x, 0, 1, 1, 0);
        Checks.dueRow(x, 1, 3, 0, 0);
        litres(x, 1, 30, 900);
        x.told(1, 2, 3);
        dueReturned(x, 0, 2);
        Checks.dueRow(x, 0, 1, 1, 0);
        dueReturned(x, 1, 2);
        Checks.dueRow(x, 0, 1, 9, 0);
        Checks.dueRow(x, 1, 2, 2, 0);
    }

    private static void noRows() {
        Checks.sentence("11: how many rows. (none)");
        DutyRules x = new DutyRules();
        dueReturned(x, 0, 0);
        dueReturned(x, 3000, 0);
        Checks.dueRow(x, 0, NONE, NONE, NONE);
        dueDifference(x, 0, 0, 0);
        Checks.dueInterest(x, 0, 100000, 0, 1);
        DutyRules y = withGoods(PLAIN);
        litres(y, 0, 30, 100);
        dueReturned(y, 0, 0);
        dueReturned(y, 2, 0);
        y.fact(0, 2, 5, -1, 1);
        dueReturned(y, 0, 0);
    }

    private static void rowsOfAllLots() {
        Checks.sentence("11: a row for each lot .. by lots: how many rows.");
        DutyRules x = withGoods(PLAIN);
        for (int lot = 29; lot >= 0; lot--) {
            litres(x, lot, 30 + lot, 100 * (lot + 1));
            litres(x, lot, 30, 777);
            dueReturned(x, 1, 30 - lot);
            Checks.due("the first row's lot", x.row(0, 0), lot);
        }
        for (int lot = 0; lot < 30; lot++) {
            Checks.dueRow(x, lot, lot, lot == 0 ? 7 : lot + 1, 0);
        }
        Checks.dueRow(x, 30, NONE, NONE, NONE);
    }

    private static void inThePlaceOfTheReturnBefore() {
        Checks.sentence("11: A return of a month, in the place of the return before");
        DutyRules x = withGoods(PLAIN + "late 10;");
        litres(x, 1, 0, 500);
        dueReturned(x, 0, 1);
        litres(x, 1, 0, 900);
        litres(x, 2, 0, 100);
        dueDifference(x, 0, 29, 4);
        Checks.dueInterest(x, 0, 39, 5, 1);
        dueReturned(x, 0, 2);
        dueDifference(x, 0, 29, 0);
        Checks.dueInterest(x, 0, 39, 10, 1);
        Checks.dueRow(x, 1, 2, 1, 0);
        litres(x, 1, 0, 500);
        dueReturned(x, 0, 2);
        Checks.dueRow(x, 0, 1, 5, -4);
    }

    private static void asKnownOnTheGreatestDay() {
        Checks.sentence("11: What the rows tell is as known on the greatest day that was told so far as a day of knowing.");
        DutyRules x = withGoods(PLAIN);
        litres(x, 1, 10, 100);
        dueReturned(x, 0, 1);
        Checks.dueRow(x, 0, 1, 1, 0);
        litres(x, 1, 11, 200);
        x.told(1, 2, 500);
        dueReturned(x, 0, 1);
        Checks.dueRow(x, 0, 1, 2, 1);
        x.told(1, 2, 100000);
        dueReturned(x, 0, 1);
        Checks.dueRow(x, 0, 1, 2, 0);
        litres(x, 1, 12, 400);
        x.told(1, 2, 0);
        dueReturned(x, 0, 1);
        Checks.dueRow(x, 0, 1, 4, 2);
        DutyRules y = withGoods(PLAIN);
        litres(y, 1, 10, 100);
        y.told(1, 2, 0);
        litres(y, 2, 300, 100);
        litres(y, 1, 10, 300);
        y.told(1, 2, 300);
        dueReturned(y, 0, 1);
        Checks.dueRow(y, 0, 1, 3, 0);
    }

    private static void rowBefore() {
        Checks.sentence("12: NONE. (before a return)");
        DutyRules x = withGoods(PLAIN);
        litres(x, 0, 0, 100);
        for (int k = -1; k <= 1; k++) {
            for (int what = -1; what <= 3; what++) {
                Checks.due("row(" + k + ", " + what + ")", x.row(k, what), NONE);
            }
        }
    }

    private static void rowsOutOfRange() {
        Checks.sentence("12: Of row k, from 0 .. NONE.");
        DutyRules x = withGoods(PLAIN);
        litres(x, 4, 0, 100);
        litres(x, 8, 0, 200);
        dueReturned(x, 0, 2);
        Checks.dueRow(x, 0, 4, 1, 0);
        Checks.dueRow(x, 1, 8, 2, 0);
        Checks.dueRow(x, 2, NONE, NONE, NONE);
        Checks.dueRow(x, -1, NONE, NONE, NONE);
        Checks.dueRow(x, 8, NONE, NONE, NONE);
        for (int k : Checks.EXTREME) {
            Checks.dueRow(x, k, NONE, NONE, NONE);
        }
    }

    private static void rowOfAnotherWhat() {
        Checks.sentence("12: the lot (what = 0), its duty (1), that less the same (2). NONE.");
        DutyRules x = withGoods(PLAIN);
        litres(x, 4, 0, 700);
        dueReturned(x, 0, 1);
        Checks.due("row(0, -1)", x.row(0, -1), NONE);
        Checks.due("row(0, 3)", x.row(0, 3), NONE);
        for (int what : Checks.EXTREME) {
            Checks.due("row(0, " + what + ")", x.row(0, what), NONE);
        }
    }

    private static void rowOfTheLastReturn() {
        Checks.sentence("12: of the last return");
        DutyRules x = withGoods(PLAIN);
        litres(x, 4, 0, 100);
        litres(x, 5, 30, 200);
        dueReturned(x, 0, 1);
        dueReturned(x, 1, 1);
        Checks.dueRow(x, 0, 5, 2, 0);
        dueReturned(x, 2, 0);
        Checks.dueRow(x, 0, NONE, NONE, NONE);
        dueReturned(x, 0, 1);
        litres(x, 4, 0, 900);
        litres(x, 3, 0, 900);
        Checks.readText(x, "");
        x.edition(0);
        Checks.dueRow(x, 0, 4, 1, 0);
        Checks.dueRow(x, 1, NONE, NONE, NONE);
    }

    private static void rowsThatAreOpen() {
        Checks.sentence("12: the least long when it was open");
        DutyRules x = Checks.withEdition(PLAIN + "small 2 below 5 times 5;rate 2 from 0 to 10000 pay 1000;", 30);
        Checks.tellFacts(x, 0, 0, -1, 0, 100);
        Checks.tellFacts(x, 1, 0, 1, -1, 100);
        Checks.tellFacts(x, 2, 0, 1, 10000, 100);
        Checks.tellFacts(x, 3, 0, 2, 0, 100);
        Checks.tellFacts(x, 4, 0, 1, 0, 100);
        dueReturned(x, 0, 5);
        for (int k = 0; k < 5; k++) {
            Checks.dueRow(x, k, k, LEAST, 0);
            litres(x, k, 30, 200);
        }
        dueReturned(x, 1, 5);
        for (int k = 0; k < 5; k++) {
            Checks.dueRow(x, k, k, k < 4 ? LEAST : 2, 0);
        }
        x.fact(4, 2, 59, 300, 1);
        dueReturned(x, 1, 5);
        Checks.dueRow(x, 4, 4, 3, 1);
    }

    private static void rowsRoundedDown() {
        Checks.sentence("12: rounded down to cents");
        DutyRules x = withGoods("rate 1 from 0 to 10000 pay 999;");
        litres(x, 0, 0, 100);
        litres(x, 1, 0, 101);
        litres(x, 2, 0, 1000);
        litres(x, 3, 0, 0);
        litres(x, 4, 0, 100000);
        dueReturned(x, 0, 5);
        Checks.dueRow(x, 0, 0, 0, 0);
        Checks.dueRow(x, 1, 1, 1, 0);
        Checks.dueRow(x, 2, 2, 9, 0);
        Checks.dueRow(x, 3, 3, 0, 0);
        Checks.dueRow(x, 4, 4, 999, 0);
        litres(x, 0, 0, 101);
        litres(x, 1, 0, 200);
        dueReturned(x, 0, 5);
        Checks.dueRow(x, 0, 0, 1, 1);
        Checks.dueRow(x, 1, 1, 1, 0);
    }

    private static void rowsOfTheLastDay() {
        Checks.sentence("12: its duty on the last day of the month");
        DutyRules x = withGoods(PLAIN);
        litres(x, 0, 30, 100);
        litres(x, 0, 59, 200);
        litres(x, 0, 60, 300);
        Checks.readText(x, "rate 1 from 0 to 10000 pay 2000;");
        x.edition(59);
        Checks.readText(x, "rate 1 from 0 to 10000 pay 9000;");
        x.edition(60);
        dueReturned(x, 1, 1);
        Checks.dueRow(x, 0, 0, 4, 0);
    }

    private static void noReturnBefore() {
        Checks.sentence("12: that less the same of the same lot in the return of that month before (2; 0 when there was none");
        DutyRules x = withGoods(PLAIN);
        litres(x, 1, 0, 500);
        dueReturned(x, 0, 1);
        Checks.dueRow(x, 0, 1, 5, 0);
        litres(x, 0, 0, 400);
        litres(x, 1, 0, 700);
        litres(x, 1, 30, 900);
        dueReturned(x, 1, 1);
        Checks.dueRow(x, 0, 1, 9, 0);
        dueReturned(x, 0, 2);
        Checks.dueRow(x, 0, 0, 4, 0);
        Checks.dueRow(x, 1, 1, 7, 2);
        dueReturned(x, 0, 2);
        Checks.dueRow(x, 1, 1, 7, 0);
    }

    private static void oneWasOpen() {
        Checks.sentence("12: 0 when there was none, or one was open");
        DutyRules x = withGoods(PLAIN);
        litres(x, 1, 0, 500);
        x.fact(1, 0, 0, 2, 1);
        dueReturned(x, 0, 1);
        Checks.dueRow(x, 0, 1, LEAST, 0);
        dueReturned(x, 0, 1);
        Checks.dueRow(x, 0, 1, LEAST, 0);
        x.fact(1, 0, 0, 1, 1);
        dueReturned(x, 0, 1);
        Checks.dueRow(x, 0, 1, 5, 0);
        litres(x, 1, 0, 800);
        dueReturned(x, 0, 1);
        Checks.dueRow(x, 0, 1, 8, 3);
        x.fact(1, 0, 0, 2, 1);
        dueReturned(x, 0, 1);
        Checks.dueRow(x, 0, 1, LEAST, 0);
        x.fact(1, 0, 0, 1, 1);
        litres(x, 1, 0, 900);
        dueReturned(x, 0, 1);
        Checks.dueRow(x, 0, 1, 9, 0);
    }

    private static void changeDownAndUp() {
        Checks.sentence("12: that less the same of the same lot (below 0)");
        DutyRules x = withGoods("rate 1 from 0 to 10000 pay 1000000;");
        litres(x, 1, 0, 1000000);
        dueReturned(x, 0, 1);
        litres(x, 1, 0, 0);
        dueReturned(x, 0, 1);
        Checks.dueRow(x, 0, 1, 0, -10000000);
        litres(x, 1, 0, 1000000);
        dueReturned(x, 0, 1);
        Checks.dueRow(x, 0, 1, 10000000, 10000000);
    }

    private static void differenceWithoutReturn() {
        Checks.sentence("13: 0 when there was no return of that month");
        DutyRules x = withGoods(PLAIN);
        litres(x, 1, 0, 500);
        litres(x, 1, 30, 700);
        dueDifference(x, 0, 0, 0);
        dueReturned(x, 0, 1);
        x.returned(-1);
        x.returned(3001);
        litres(x, 1, 0, 900);
        dueDifference(x, 0, 0, 4);
        dueDifference(x, 1, 0, 0);
        for (int month : NO_MONTHS) {
            dueDifference(x, month, 0, 0);
        }
    }

    private static void differenceOnNoDay() {
        Checks.sentence("13: 0 when there was .. no such day.");
        DutyRules x = withGoods(PLAIN);
        litres(x, 1, 0, 500);
        dueReturned(x, 0, 1);
        litres(x, 1, 0, 900);
        dueDifference(x, 0, -1, 0);
        dueDifference(x, 0, 100001, 0);
        for (long on : Checks.WRAPPING) {
            dueDifference(x, 0, on, 0);
        }
        dueDifference(x, 0, 0, 4);
        dueDifference(x, 0, 100000, 4);
    }

    private static void differenceOfOpenRows() {
        Checks.sentence("13: Over all lots that have a row in the last return of a month, not open there");
        DutyRules x = withGoods(PLAIN);
        litres(x, 0, 0, 500);
        litres(x, 1, 0, 500);
        x.fact(1, 0, 0, 2, 1);
        dueReturned(x, 0, 2);
        Checks.dueRow(x, 1, 1, LEAST, 0);
        dueDifference(x, 0, 0, 0);
        x.fact(1, 0, 0, 1, 1);
        dueDifference(x, 0, 0, 0);
        litres(x, 0, 0, 700);
        dueDifference(x, 0, 0, 2);
    }

    private static void differenceOfOpenDuties() {
        Checks.sentence("13: (0 when it is open then), less that of the row");
        DutyRules x = withGoods(PLAIN);
        litres(x, 0, 10, 500);
        litres(x, 1, 20, 700);
        dueReturned(x, 0, 2);
        dueDifference(x, 0, 9, -12);
        dueDifference(x, 0, 10, -7);
        dueDifference(x, 0, 19, -7);
        dueDifference(x, 0, 20, 0);
        Checks.readText(x, "");
        x.edition(0);
        dueDifference(x, 0, 100000, -12);
    }

    private static void differenceOfLotsWithoutRow() {
        Checks.sentence("13: Over all lots that have a row in the last return of a month");
        DutyRules x = withGoods(PLAIN);
        litres(x, 0, 0, 500);
        dueReturned(x, 0, 1);
        litres(x, 1, 0, 700);
        dueDifference(x, 0, 0, 0);
        litres(x, 2, 30, 700);
        dueReturned(x, 1, 1);
        dueDifference(x, 0, 0, 0);
        dueDifference(x, 1, 30, 0);
        litres(x, 0, 0, 600);
        litres(x, 1, 0, 800);
        dueReturned(x, 0, 2);
        litres(x, 0, 0, 700);
        litres(x, 1, 0, 900);
        dueDifference(x, 0, 0, 2);
    }

    private static void differenceRoundedDown() {
        Checks.sentence("13: as known on a day, rounded down to cents");
        DutyRules x = withGoods(PLAIN);
        litres(x, 0, 0, 199);
        litres(x, 1, 0, 199);
        dueReturned(x, 0, 2);
        litres(x, 0, 0, 299);
        litres(x, 1, 0, 299);
        dueDifference(x, 0, 0, 2);
        litres(x, 0, 0, 99);
        litres(x, 1, 0, 100);
        dueDifference(x, 0, 0, -1);
    }

    private static void differenceOnTheLastDay() {
        Checks.sentence("13: their duty on the last day of the month, as known on a day");
        DutyRules x = withGoods(PLAIN);
        litres(x, 0, 30, 100);
        dueReturned(x, 1, 1);
        litres(x, 0, 60, 900);
        dueDifference(x, 1, 100000, 0);
        litres(x, 0, 59, 300);
        x.told(0, 2, 200);
        dueDifference(x, 1, 199, 0);
        dueDifference(x, 1, 200, 2);
        dueDifference(x, 1, 29, -1);
        dueDifference(x, 1, 30, 0);
        Checks.readText(x, "rate 1 from 0 to 10000 pay 2000;");
        x.edition(60);
        dueDifference(x, 1, 200, 2);
        x.edition(59);
        dueDifference(x, 1, 200, 5);
    }

    private static void differenceOfTheLastReturnOfAMonth() {
        Checks.sentence("13: in the last return of a month");
        DutyRules x = withGoods(PLAIN);
        litres(x, 0, 0, 100);
        dueReturned(x, 0, 1);
        litres(x, 0, 0, 300);
        litres(x, 0, 30, 500);
        dueReturned(x, 1, 1);
        dueReturned(x, 2, 0);
        dueDifference(x, 0, 0, 2);
        dueDifference(x, 1, 0, -2);
        dueDifference(x, 2, 0, 0);
        dueReturned(x, 0, 1);
        dueDifference(x, 0, 0, 0);
    }

    private static void interestWithoutReturn() {
        Checks.sentence("15: The least long when there was no return of the month");
        DutyRules x = withGoods(PLAIN + "late 10;");
        litres(x, 1, 0, 500);
        Checks.dueInterest(x, 0, 39, LEAST, LEAST);
        dueReturned(x, 0, 1);
        x.returned(-1);
        x.returned(3001);
        Checks.dueInterest(x, 0, 39, 5, 1);
        Checks.dueInterest(x, 1, 69, LEAST, LEAST);
        Checks.dueInterest(x, 1, 0, LEAST, LEAST);
        for (int month : NO_MONTHS) {
            Checks.dueInterest(x, month, 39, LEAST, LEAST);
        }
        DutyRules y = withGoods(PLAIN);
        Checks.dueInterest(y, 0, 39, LEAST, LEAST);
    }

    private static void interestOnNoDay() {
        Checks.sentence("15: The least long when there was .. no such day");
        DutyRules x = withGoods(PLAIN + "late 10;");
        litres(x, 1, 0, 500);
        dueReturned(x, 0, 1);
        Checks.dueInterest(x, 0, -1, LEAST, LEAST);
        Checks.dueInterest(x, 0, 100001, LEAST, LEAST);
        for (long day : Checks.WRAPPING) {
            Checks.dueInterest(x, 0, day, LEAST, LEAST);
        }
        Checks.dueInterest(x, 0, 100000, 99971, 2);
        Checks.dueInterest(x, 0, 0, 0, 1);
        DutyRules y = withGoods(PLAIN);
        dueReturned(y, 0, 0);
        Checks.dueInterest(y, 0, -1, LEAST, LEAST);
        Checks.dueInterest(y, 0, 100001, LEAST, LEAST);
    }

    private static void interestOfNoPart() {
        Checks.sentence("15: The least long when there was .. no such part.");
        DutyRules x = withGoods(PLAIN + "late 10;");
        litres(x, 1, 0, 500);
        dueReturned(x, 0, 1);
        Checks.due("interest(0, 39, -1)", x.interest(0, 39, -1), LEAST);
        Checks.due("interest(0, 39, 2)", x.interest(0, 39, 2), LEAST);
        Checks.due("interest(0, 0, 2)", x.interest(0, 0, 2), LEAST);
        for (int part : Checks.EXTREME) {
            Checks.due("interest(0, 39, " + part + ")", x.interest(0, 39, part), LEAST);
        }
        DutyRules y = withGoods(PLAIN);
        dueReturned(y, 0, 0);
        Checks.due("interest(0, 39, 2)", y.interest(0, 39, 2), LEAST);
        Checks.due("interest(0, 39, -1)", y.interest(0, 39, -1), LEAST);
    }

    private static void interestWithoutLateRule() {
        Checks.sentence("15: 0 and 1 without a late rule");
        DutyRules x = withGoods(PLAIN + "round 1;");
        litres(x, 1, 0, 500);
        dueReturned(x, 0, 1);
        Checks.dueInterest(x, 0, 39, 0, 1);
        Checks.dueInterest(x, 0, 100000, 0, 1);
        Checks.readText(x, PLAIN + "late 0;");
        x.edition(0);
        Checks.dueInterest(x, 0, 39, 0, 1);
        DutyRules noEdition = new DutyRules();
        litres(noEdition, 1, 0, 500);
        dueReturned(noEdition, 0, 1);
        Checks.dueInterest(noEdition, 0, 39, 0, 1);
        DutyRules later = Checks.withEdition(PLAIN + "late 10;", 30);
        Checks.tellFacts(later, 1, 0, 1, 0, 500);
        dueReturned(later, 0, 1);
        Checks.dueInterest(later, 0, 39, 0, 1);
    }

    private static void interestWhenNotBehind() {
        Checks.sentence("15: 0 and 1 .. when the day is not behind.");
        int[] months = {0, 1, 3000};
        for (int month : months) {
            DutyRules x = withGoods(PLAIN + "late 10;");
            litres(x, 1, 30L * month, 500);
            dueReturned(x, month, 1);
            Checks.dueInterest(x, month, 0, 0, 1);
            Checks.dueInterest(x, month, 30L * month, 0, 1);
            Checks.dueInterest(x, month, 30L * month + 28, 0, 1);
            Checks.dueInterest(x, month, 30L * month + 29, 0, 1);
            Checks.dueInterest(x, month, 30L * month + 30, 1, 2);
            Checks.dueInterest(x, month, 30L * month + 31, 1, 1);
        }
    }

    private static void interestOfOpenRows() {
        Checks.sentence("15: the sum of those that are not open");
        DutyRules x = withGoods(PLAIN + "late 10;");
        litres(x, 0, 0, 500);
        litres(x, 1, 0, 700);
        litres(x, 29, 0, 199);
        x.fact(0, 0, 0, 2, 1);
        dueReturned(x, 0, 3);
        Checks.dueInterest(x, 0, 39, 8, 1);
        x.fact(0, 0, 0, 1, 1);
        Checks.dueInterest(x, 0, 39, 8, 1);
        x.fact(1, 0, 0, 2, 1);
        x.fact(29, 0, 0, 2, 1);
        dueReturned(x, 0, 3);
        Checks.dueInterest(x, 0, 39, 5, 1);
        x.fact(0, 0, 0, 2, 1);
        dueReturned(x, 0, 3);
        Checks.dueInterest(x, 0, 39, 0, 1);
    }

    private static void interestByTheEditionOfTheLastDay() {
        Checks.sentence("15: H of the late rule of the edition of the last day of the month");
        DutyRules x = withGoods("late 10;" + PLAIN);
        litres(x, 0, 0, 1000);
        dueReturned(x, 0, 1);
        Checks.readText(x, "late 100;");
        x.edition(30);
        Checks.dueInterest(x, 0, 39, 10, 1);
        Checks.readText(x, "late 20;");
        x.edition(28);
        Checks.dueInterest(x, 0, 39, 20, 1);
        Checks.readText(x, PLAIN + "late 30;");
        x.edition(29);
        Checks.dueInterest(x, 0, 39, 30, 1);
        Checks.readText(x, "late 99;");
        Checks.dueInterest(x, 0, 39, 30, 1);
    }

    private static void interestOfTheLastReturn() {
        Checks.sentence("15: Interest on the rows of the last return of a month");
        DutyRules x = withGoods(PLAIN + "late 10;");
        litres(x, 0, 0, 100);
        dueReturned(x, 0, 1);
        litres(x, 0, 0, 200);
        litres(x, 0, 30, 500);
        dueReturned(x, 1, 1);
        Checks.dueInterest(x, 0, 39, 1, 1);
        Checks.dueInterest(x, 1, 69, 5, 1);
        dueReturned(x, 0, 1);
        Checks.dueInterest(x, 0, 39, 2, 1);
        Checks.dueInterest(x, 1, 69, 5, 1);
    }

    private static void interestReduced() {
        Checks.sentence("15: a reduced fraction: above (part 0), below (part 1).");
        DutyRules x = withGoods(PLAIN + "late 1;");
        litres(x, 0, 0, 100);
        dueReturned(x, 0, 1);
        Checks.dueInterest(x, 0, 30, 1, 100);
        Checks.dueInterest(x, 0, 31, 1, 50);
        Checks.dueInterest(x, 0, 128, 99, 100);
        Checks.dueInterest(x, 0, 129, 1, 1);
        Checks.dueInterest(x, 0, 130, 101, 100);
        litres(x, 0, 0, 99);
        dueReturned(x, 0, 1);
        Checks.dueInterest(x, 0, 130, 0, 1);
    }

    private static void greatestInterest() {
        Checks.sentence("15: the sum .. * H / 100 * the days behind the last one (the greatest does not wrap around)");
        DutyRules x = withGoods("late 100;rate 1 from 0 to 10000 pay 1000000;");
        for (int lot = 0; lot < 30; lot++) {
            litres(x, lot, 0, 1000000);
        }
        dueReturned(x, 0, 30);
        Checks.dueInterest(x, 0, 100000, 300000000L * 99971L, 1);
        dueDifference(x, 0, 0, 0);
        Checks.readText(x, "");
        x.edition(0);
        dueDifference(x, 0, 0, -300000000L);
        Checks.readText(x, "late 99;");
        x.edition(0);
        Checks.dueInterest(x, 0, 100000, 3000000L * 99L * 99971L, 1);
    }
}
