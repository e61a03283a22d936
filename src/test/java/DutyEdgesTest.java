/** The boundary cases of duties: a test for each sentence of Terms and of promises 7, 8, 9 and 10. */
public final class DutyEdgesTest {
    private static final int NONE = DutyRules.NONE;
    private static final String PLAIN = "rate 1 from 0 to 10000 pay 1000;";

    public static void main(String[] args) {
        units();
        firstReason();
        noEdition();
        noRateOfTheStrength();
        noLitresOfTheYear();
        theFirstRate();
        exactly();
        noLostLitres();
        noLossRule();
        atMostLitresTimesUpto();
        theFirstLoss();
        noLitresAway();
        noAwayRule();
        atMostLitresLessTheFree();
        theFirstAway();
        lessThanBelow();
        theFirstSmall();
        nearestMultiple();
        withoutRound();
        onlyStepsThatAreDone();
        greatestDuty();
        dutyOfNoLot();
        dutyOfNoDay();
        dutyOfNoPart();
        reducedFraction();
        openBefore();
        openOfAnotherWhat();
        openOfAnOpenDuty();
        openOfTheLastNotRefused();
        stepBefore();
        stepOfAnotherLot();
        stepOfAnOpenDuty();
        stepsOutOfRange();
        stepOfAnotherWhat();
        centsRoundedDown();
        stepOfTheLastNotRefused();
        allowedMonths();
        allowedParts();
        allowedOfNone();
        allowedOfOpenDuties();
        allowedOnTheLastDay();
        allowedOfAllLots();
        Checks.end();
    }

    private static DutyRules withLot(String text, int... values) {
        DutyRules x = Checks.withEdition(text, 0);
        Checks.tellFacts(x, 0, 0, values);
        return x;
    }

    private static void dueOf(String text, long above, long below, int steps, int... values) {
        DutyRules x = withLot(text, values);
        Checks.dueDuty(x, 0, 0, 0, above, below);
        Checks.due("reason", x.open(1), NONE);
        Checks.due("steps of " + text, x.open(2), steps);
        Checks.due("step behind the last", x.step(0, steps, 0), NONE);
    }

    private static void units() {
        Checks.sentence("Terms: LITRES and SHARES are told in hundredths, RATES (pay) in thousandths of a cent for a litre.");
        dueOf(PLAIN, 1, 1, 1, 1, 0, 100);
        dueOf("rate 1 from 0 to 10000 pay 1;", 1, 100000, 1, 1, 0, 1);
        dueOf(PLAIN + "small 1 below 1 times 1;", 1, 100, 2, 1, 0, 100, 0);
        dueOf(PLAIN + "small 1 below 1 times 100;", 1, 1, 2, 1, 0, 100, 0);
        dueOf(PLAIN + "small 1 below 1 times 0;", 0, 1, 2, 1, 0, 100, 0);
    }

    /** Of each of 64 states (what is there and what is not) the first reason in the document's order. */
    private static void firstReason() {
        Checks.sentence("Terms: It is OPEN, with a reason, the first of these: 20 no edition; 0, 1, 2 no goods, strength or"
                + " litres; 21 no rate of the goods; 3 a small rule of the goods and no litres of the year.");
        int[] reasons = {20, 0, 1, 2, 21, 3};
        for (int there = 0; there < 64; there++) {
            DutyRules x = new DutyRules();
            Checks.readText(x, ((there & 16) != 0 ? PLAIN : "rate 2 from 0 to 10000 pay 1000;") + "small 1 below 0 times 0;");
            if ((there & 1) != 0) {
                x.edition(0);
            }
            Checks.tellFacts(x, 4, 0, (there & 2) != 0 ? 1 : -1, (there & 4) != 0 ? 0 : -1, (there & 8) != 0 ? 100 : -1,
                    (there & 32) != 0 ? 0 : -1, 0, 0);
            int first = 0;
            while (first < 6 && (there & (1 << first)) != 0) {
                first++;
            }
            if (first < 6) {
                Checks.dueOpen(x, 4, 0, 0, reasons[first]);
            } else {
                Checks.dueDuty(x, 4, 0, 0, 1, 1);
                Checks.due("reason", x.open(1), NONE);
            }
        }
    }

    private static void noEdition() {
        Checks.sentence("Terms: by the edition of the first (day); 20 no edition");
        DutyRules x = Checks.withEdition(PLAIN, 10);
        Checks.tellFacts(x, 0, 0, 1, 0, 100);
        Checks.dueOpen(x, 0, 9, 10, 20);
        Checks.dueOpen(x, 0, 0, 100000, 20);
        Checks.dueDuty(x, 0, 10, 9, 1, 1);
        Checks.dueDuty(x, 0, 100000, 0, 1, 1);
    }

    private static void noRateOfTheStrength() {
        Checks.sentence("Terms: 21 no rate of the goods with from <= strength < to");
        String text = "rate 1 from 100 to 200 pay 1000;rate 2 from 0 to 10000 pay 1000;rate 1 from 300 to 10000 pay 2000;";
        int[] strengths = {0, 99, 100, 101, 199, 200, 201, 299, 300, 301, 9999, 10000};
        int[] cents = {-1, -1, 1, 1, 1, -1, -1, -1, 2, 2, 2, -1};
        for (int i = 0; i < strengths.length; i++) {
            DutyRules x = withLot(text, 1, strengths[i], 100);
            if (cents[i] < 0) {
                Checks.dueOpen(x, 0, 0, 0, 21);
            } else {
                Checks.dueDuty(x, 0, 0, 0, cents[i], 1);
            }
        }
        Checks.dueOpen(withLot(text, 0, 100, 100), 0, 0, 0, 21);
        Checks.dueOpen(withLot(text, 9, 100, 100), 0, 0, 0, 21);
        Checks.dueOpen(withLot("rate 1 from 0 to 1 pay 1;", 1, 1, 100), 0, 0, 0, 21);
        dueOf("rate 1 from 0 to 1 pay 1000;", 1, 1, 1, 1, 0, 100);
        dueOf("rate 0 from 9999 to 10000 pay 1000;", 1, 1, 1, 0, 9999, 100);
        dueOf("rate 9 from 9999 to 10000 pay 1000;", 1, 1, 1, 9, 9999, 100);
    }

    private static void noLitresOfTheYear() {
        Checks.sentence("Terms: 3 a small rule of the goods and no litres of the year");
        Checks.dueOpen(withLot(PLAIN + "small 1 below 0 times 50;", 1, 0, 100), 0, 0, 0, 3);
        Checks.dueOpen(withLot("small 1 below 100000000 times 50;" + PLAIN, 1, 0, 0), 0, 0, 0, 3);
        dueOf(PLAIN + "small 2 below 5 times 50;small 0 below 5 times 50;", 1, 1, 1, 1, 0, 100);
        dueOf(PLAIN + "small 1 below 5 times 50;", 1, 2, 2, 1, 0, 100, 0);
        DutyRules x = withLot(PLAIN + "small 1 below 5 times 50;", 1, 0, 100);
        x.fact(0, 3, 10, 0, 1);
        x.told(0, 3, 20);
        Checks.dueOpen(x, 0, 9, 20, 3);
        Checks.dueOpen(x, 0, 10, 19, 3);
        Checks.dueDuty(x, 0, 10, 20, 1, 2);
    }

    private static void theFirstRate() {
        Checks.sentence("Terms: A: the first such rate");
        String text = "rate 2 from 0 to 10000 pay 9000;rate 1 from 0 to 50 pay 8000;rate 1 from 0 to 100 pay 2000;"
                + "rate 1 from 0 to 100 pay 3000;rate 1 from 40 to 10000 pay 4000;";
        int[] strengths = {49, 50, 99, 100};
        int[] rules = {1, 2, 2, 4};
        int[] cents = {8, 2, 2, 4};
        for (int i = 0; i < strengths.length; i++) {
            DutyRules x = withLot(text, 1, strengths[i], 100);
            Checks.dueDuty(x, 0, 0, 0, cents[i], 1);
            Checks.dueStep(x, 0, 0, 0, rules[i], cents[i]);
        }
        DutyRules last = withLot("loss 2 upto 5;".repeat(39) + PLAIN, 1, 0, 100);
        Checks.dueDuty(last, 0, 0, 0, 1, 1);
        Checks.dueStep(last, 0, 0, 0, 39, 1);
        Checks.dueOpen(withLot("loss 1 upto 5;".repeat(40), 1, 0, 100), 0, 0, 0, 21);
    }

    private static void exactly() {
        Checks.sentence("Terms: c is litres * pay, exactly (all that follows is exact, too).");
        dueOf("rate 1 from 0 to 10000 pay 999999;", 999999L * 999999L, 100000, 1, 1, 0, 999999);
        dueOf("rate 1 from 0 to 10000 pay 1;loss 1 upto 1;away 1 times 1;small 1 below 1 times 1;",
                9801, 100000000000L, 4, 1, 0, 1, 0, 1, 1);
        dueOf("rate 1 from 0 to 10000 pay 1;loss 1 upto 1;away 1 times 1;small 1 below 1 times 99;",
                970299, 100000000000L, 4, 1, 0, 1, 0, 1, 1);
        // 9999.99 litres, of which 99.9999 are free; the rest is away by a hundredth; 99 hundredths of that.
        dueOf("rate 1 from 0 to 10000 pay 999999;loss 1 upto 1;away 1 times 1;small 1 below 1 times 99;",
                999999L * 999999L * 970299L, 100000000000L, 4, 1, 0, 999999, 0, 1000000, 1000000);
    }

    private static void noLostLitres() {
        Checks.sentence("Terms: B: with lost litres");
        dueOf(PLAIN + "loss 1 upto 50;", 1, 1, 1, 1, 0, 100);
        dueOf(PLAIN + "loss 1 upto 50;", 3, 4, 2, 1, 0, 100, -1, 25);
        dueOf(PLAIN + "loss 1 upto 50;", 1, 1, 2, 1, 0, 100, -1, 0);
        DutyRules x = withLot(PLAIN + "loss 1 upto 50;", 1, 0, 100);
        x.fact(0, 4, 10, 25, 1);
        x.told(0, 4, 20);
        Checks.dueDuty(x, 0, 9, 20, 1, 1);
        Checks.dueDuty(x, 0, 10, 19, 1, 1);
        Checks.dueDuty(x, 0, 10, 20, 3, 4);
    }

    private static void noLossRule() {
        Checks.sentence("Terms: B: and a loss of the goods; without such a rule nothing is free.");
        dueOf(PLAIN, 1, 1, 1, 1, 0, 100, -1, 100);
        dueOf(PLAIN + "loss 2 upto 100;loss 0 upto 100;", 1, 1, 1, 1, 0, 100, -1, 100);
        DutyRules x = withLot(PLAIN + "loss 2 upto 100;away 1 times 100;", 1, 0, 100, -1, 100, 100);
        Checks.dueDuty(x, 0, 0, 0, 0, 1);
        Checks.dueStep(x, 0, 1, 2, 2, 0);
        Checks.dueAllowed(x, 0, 0, 1);
    }

    private static void atMostLitresTimesUpto() {
        Checks.sentence("Terms: B: the lost litres, but at most litres * upto, are free");
        int[] lost = {0, 299, 300, 301, 10000, 1000000};
        int[] free = {0, 299, 300, 300, 300, 300};
        for (int i = 0; i < lost.length; i++) {
            DutyRules x = withLot(PLAIN + "loss 1 upto 3;", 1, 0, 10000, -1, lost[i]);
            Checks.due("cents times 100", hundredths(x), 10000 - free[i]);
            Checks.due("free times 100", x.allowed(0, 0) * 100 / x.allowed(0, 1), free[i]);
            Checks.due("letter", x.duty(0, 0, 0, 0) < 0 ? NONE : x.step(0, 1, 0), 1);
        }
        dueOf(PLAIN + "loss 1 upto 3;", 49, 50, 2, 1, 0, 101, -1, 3);
        dueOf(PLAIN + "loss 1 upto 3;", 9797, 10000, 2, 1, 0, 101, -1, 4);
        dueOf(PLAIN + "loss 1 upto 33;", 67, 10000, 2, 1, 0, 1, -1, 1);
        dueOf(PLAIN + "loss 1 upto 0;", 1, 1, 2, 1, 0, 100, -1, 100);
        dueOf(PLAIN + "loss 1 upto 100;", 0, 1, 2, 1, 0, 100, -1, 1000000);
        dueOf(PLAIN + "loss 1 upto 100;", 1, 100, 2, 1, 0, 100, -1, 99);
        dueOf(PLAIN + "loss 1 upto 100;", 0, 1, 2, 1, 0, 0, -1, 1000000);
    }

    private static long hundredths(DutyRules x) {
        return x.duty(0, 0, 0, 0) * 100 / Math.max(1, x.duty(0, 0, 0, 1));
    }

    private static void theFirstLoss() {
        Checks.sentence("Terms: B: a loss of the goods (the first one)");
        DutyRules x = withLot("loss 2 upto 90;loss 1 upto 10;loss 1 upto 50;" + PLAIN, 1, 0, 10000, -1, 10000);
        Checks.dueDuty(x, 0, 0, 0, 90, 1);
        Checks.dueStep(x, 0, 1, 1, 1, 90);
        DutyRules y = withLot("loss 1 upto 0;loss 1 upto 50;" + PLAIN, 1, 0, 10000, -1, 10000);
        Checks.dueDuty(y, 0, 0, 0, 100, 1);
        Checks.dueStep(y, 0, 1, 1, 0, 100);
    }

    private static void noLitresAway() {
        Checks.sentence("Terms: C: with litres that went away");
        dueOf(PLAIN + "away 1 times 50;", 1, 1, 1, 1, 0, 100);
        dueOf(PLAIN + "away 1 times 50;", 7, 8, 2, 1, 0, 100, -1, -1, 25);
        dueOf(PLAIN + "away 1 times 50;", 1, 1, 2, 1, 0, 100, -1, -1, 0);
        DutyRules x = withLot(PLAIN + "away 1 times 50;", 1, 0, 100);
        x.fact(0, 5, 10, 100, 1);
        x.told(0, 5, 20);
        Checks.dueDuty(x, 0, 9, 20, 1, 1);
        Checks.dueDuty(x, 0, 10, 19, 1, 1);
        Checks.dueDuty(x, 0, 10, 20, 1, 2);
    }

    private static void noAwayRule() {
        Checks.sentence("Terms: C: and an away rule of the goods");
        dueOf(PLAIN, 1, 1, 1, 1, 0, 100, -1, -1, 100);
        dueOf(PLAIN + "away 2 times 100;away 0 times 100;", 1, 1, 1, 1, 0, 100, -1, -1, 100);
    }

    private static void atMostLitresLessTheFree() {
        Checks.sentence("Terms: C: with litres that went away, but at most litres less the free ones");
        String all = PLAIN + "loss 1 upto 10;away 1 times 100;";
        dueOf(all, 1, 100, 3, 1, 0, 10000, -1, 1000, 8999);
        dueOf(all, 0, 1, 3, 1, 0, 10000, -1, 1000, 9000);
        dueOf(all, 0, 1, 3, 1, 0, 10000, -1, 1000, 9001);
        dueOf(all, 0, 1, 3, 1, 0, 10000, -1, 1000, 1000000);
        dueOf(all, 0, 1, 3, 1, 0, 10000, -1, 1000000, 1000000);
        dueOf(all, 0, 1, 2, 1, 0, 10000, -1, -1, 10000);
        dueOf(all, 1, 100, 2, 1, 0, 10000, -1, -1, 9999);
        dueOf(all, 0, 1, 2, 1, 0, 10000, -1, -1, 10001);
        dueOf(PLAIN + "loss 1 upto 33;away 1 times 50;", 67, 20000, 3, 1, 0, 1, -1, 1, 1);
        dueOf(PLAIN + "loss 1 upto 100;away 1 times 50;", 0, 1, 3, 1, 0, 100, -1, 100, 100);
        dueOf(PLAIN + "away 1 times 0;", 1, 1, 2, 1, 0, 100, -1, -1, 1000000);
        dueOf(PLAIN + "away 1 times 100;", 0, 1, 2, 1, 0, 0, -1, -1, 1000000);
    }

    private static void theFirstAway() {
        Checks.sentence("Terms: C: an away rule of the goods (the first one)");
        DutyRules x = withLot("away 2 times 90;away 1 times 10;away 1 times 50;" + PLAIN, 1, 0, 10000, -1, -1, 10000);
        Checks.dueDuty(x, 0, 0, 0, 90, 1);
        Checks.dueStep(x, 0, 1, 2, 1, 90);
        DutyRules y = withLot("away 1 times 0;away 1 times 50;" + PLAIN, 1, 0, 10000, -1, -1, 10000);
        Checks.dueDuty(y, 0, 0, 0, 100, 1);
        Checks.dueStep(y, 0, 1, 2, 0, 100);
    }

    private static void lessThanBelow() {
        Checks.sentence("Terms: D: with a small rule of the goods and less litres of the year than below");
        dueOf(PLAIN + "small 1 below 500 times 50;", 1, 2, 2, 1, 0, 100, 499);
        dueOf(PLAIN + "small 1 below 500 times 50;", 1, 1, 1, 1, 0, 100, 500);
        dueOf(PLAIN + "small 1 below 500 times 50;", 1, 1, 1, 1, 0, 100, 501);
        dueOf(PLAIN + "small 1 below 500 times 50;", 1, 2, 2, 1, 0, 100, 0);
        dueOf(PLAIN + "small 1 below 0 times 50;", 1, 1, 1, 1, 0, 100, 0);
        dueOf(PLAIN + "small 1 below 1 times 50;", 1, 2, 2, 1, 0, 100, 0);
        dueOf(PLAIN + "small 1 below 100000000 times 50;", 1, 2, 2, 1, 0, 100, 99999999);
        dueOf(PLAIN + "small 1 below 100000000 times 50;", 1, 1, 1, 1, 0, 100, 100000000);
        dueOf(PLAIN + "small 2 below 100000000 times 50;", 1, 1, 1, 1, 0, 100, 0);
    }

    private static void theFirstSmall() {
        Checks.sentence("Terms: D: with a small rule of the goods (the first one)");
        String text = "small 2 below 900 times 5;small 1 below 500 times 50;small 1 below 900 times 10;" + PLAIN;
        dueOf(text, 1, 2, 2, 1, 0, 100, 499);
        dueOf(text, 1, 1, 1, 1, 0, 100, 500);
        DutyRules x = withLot(text, 1, 0, 1000, 0);
        Checks.dueDuty(x, 0, 0, 0, 5, 1);
        Checks.dueStep(x, 0, 1, 3, 1, 5);
    }

    private static void dueRounded(int n, int litres, int pay, long cents) {
        String text = "round " + n + ";rate 1 from 0 to 10000 pay " + pay + ";";
        dueOf(text, cents, 1, 2, 1, 0, litres);
    }

    private static void nearestMultiple() {
        Checks.sentence("Terms: E: with round: c becomes the nearest multiple of N, halves up.");
        int[] ns = {1, 2, 3, 5, 7, 10, 999, 1000};
        for (int n : ns) {
            dueRounded(n, 100, 500 * n - 1, 0);
            dueRounded(n, 100, 500 * n, n);
            dueRounded(n, 100, 500 * n + 1, n);
            dueRounded(n, 100, 1000 * n - 1, n);
            dueRounded(n, 100, 1000 * n, n);
            dueRounded(n, 0, 1000, 0);
            dueRounded(n, 1000, 150 * n - 1, n);
            dueRounded(n, 1000, 150 * n, 2L * n);
        }
        dueRounded(1, 1, 49999, 0);
        dueRounded(1, 1, 50000, 1);
        dueRounded(1, 49999, 1, 0);
        dueRounded(1, 50000, 1, 1);
        dueRounded(1000, 1000000, 1000000, 10000000);
        dueRounded(1000, 1000000, 999950, 10000000);
        dueRounded(1000, 1000000, 999949, 9999000);
        dueRounded(999, 1000000, 1000000, 9999990);
        dueRounded(1, 999999, 999999, 9999980);
        dueOf("round 10;" + PLAIN + "small 1 below 1 times 50;", 10, 1, 3, 1, 0, 1000, 0);
        dueOf("round 10;" + PLAIN + "small 1 below 1 times 49;", 0, 1, 3, 1, 0, 1000, 0);
        dueOf("round 10;" + PLAIN + "away 1 times 100;", 10, 1, 3, 1, 0, 1000, -1, -1, 500);
        dueOf("round 10;" + PLAIN + "away 1 times 100;", 0, 1, 3, 1, 0, 1000, -1, -1, 501);
        dueOf("round 10;" + PLAIN + "loss 1 upto 100;", 0, 1, 3, 1, 0, 1000, -1, 501);
    }

    private static void withoutRound() {
        Checks.sentence("Terms: E: with round");
        dueOf("rate 1 from 0 to 10000 pay 499;late 5;", 499, 1000, 1, 1, 0, 100);
        DutyRules x = withLot("rate 1 from 0 to 10000 pay 499;round 1;", 1, 0, 100);
        Checks.dueDuty(x, 0, 0, 0, 0, 1);
        Checks.readText(x, "rate 1 from 0 to 10000 pay 499;");
        x.edition(1);
        Checks.dueDuty(x, 0, 1, 0, 499, 1000);
    }

    /** Of each of 16 states (which of B, C, D, E are done) the letters and rules of the steps. */
    private static void onlyStepsThatAreDone() {
        Checks.sentence("Terms: Only steps that are done are counted; the rule of B, C, D, E is that rule.");
        String text = "round 1;small 1 below 500 times 50;away 1 times 50;loss 1 upto 50;" + PLAIN;
        String unrounded = text.replace("round 1;", "late 1;");
        int[] rules = {4, 3, 2, 1, 0};
        for (int done = 1; done < 32; done += 2) {
            DutyRules x = withLot((done & 16) != 0 ? text : unrounded, 1, 0, 100000, (done & 8) != 0 ? 499 : 500,
                    (done & 2) != 0 ? 1000 : -1, (done & 4) != 0 ? 1000 : -1);
            Checks.due("duty", x.duty(0, 0, 0, 0) >= 0, true);
            int k = 0;
            int halves = 2000;
            for (int letter = 0; letter < 5; letter++) {
                if ((done & (1 << letter)) != 0) {
                    halves -= letter == 1 ? 20 : letter == 2 ? 10 : letter == 3 ? halves / 2 : 0;
                    halves += letter == 4 ? halves % 2 : 0;
                    Checks.due("letter of step " + k + " of " + done, x.step(0, k, 0), letter);
                    Checks.due("rule of step " + k + " of " + done, x.step(0, k, 1), rules[letter]);
                    Checks.due("cents of step " + k + " of " + done, x.step(0, k, 2), halves / 2);
                    k++;
                }
            }
            Checks.due("steps of " + done, x.open(2), k);
            Checks.due("behind the last of " + done, x.step(0, k, 0), NONE);
        }
    }

    private static void greatestDuty() {
        Checks.sentence("Terms: litres 0 .. 1,000,000 hundredths, pay 0 .. 1000000 (the greatest duty does not wrap around)");
        String text = "rate 1 from 0 to 10000 pay 1000000;small 1 below 100000000 times 100;loss 1 upto 100;away 1 times 100;";
        dueOf(text, 10000000, 1, 4, 1, 0, 1000000, 0, 0, 0);
        dueOf(text, 0, 1, 4, 1, 0, 1000000, 0, 1000000, 0);
        dueOf(text, 0, 1, 4, 1, 0, 1000000, 0, 0, 1000000);
        dueOf(text, 100, 1, 4, 1, 0, 1000000, 0, 999989, 1);
        dueOf(text + "round 1000;", 10000000, 1, 5, 1, 0, 1000000, 0, 0, 0);
        dueOf(text, 0, 1, 4, 1, 0, 0, 0, 1000000, 1000000);
    }

    private static void dueRefused(DutyRules x, int lot, long day, long on, int part) {
        Checks.due("duty(" + lot + ", " + day + ", " + on + ", " + part + ")", x.duty(lot, day, on, part), Checks.LEAST);
    }

    private static void dutyOfNoLot() {
        Checks.sentence("7: The least long when there is no such lot");
        DutyRules x = Checks.withEdition(PLAIN, 0);
        for (int lot = 0; lot < 30; lot++) {
            Checks.tellFacts(x, lot, 0, 1, 0, 100 * (lot + 1));
            Checks.dueDuty(x, lot, 0, 0, lot + 1, 1);
        }
        dueRefused(x, -1, 0, 0, 0);
        dueRefused(x, 30, 0, 0, 0);
        for (int lot : Checks.EXTREME) {
            dueRefused(x, lot, 0, 0, 0);
            dueRefused(x, lot, 0, 0, 1);
        }
        Checks.due("the last lot that is one", x.open(0), 29);
    }

    private static void dutyOfNoDay() {
        Checks.sentence("7: The least long when there is no such day");
        DutyRules x = withLot(PLAIN, 1, 0, 100);
        dueRefused(x, 0, -1, 0, 0);
        dueRefused(x, 0, 100001, 0, 0);
        dueRefused(x, 0, 0, -1, 0);
        dueRefused(x, 0, 0, 100001, 0);
        for (long day : Checks.WRAPPING) {
            dueRefused(x, 0, day, 0, 0);
            dueRefused(x, 0, 0, day, 1);
        }
        Checks.due("none of them was one", x.open(0), NONE);
        Checks.dueDuty(x, 0, 100000, 0, 1, 1);
        Checks.dueDuty(x, 0, 0, 100000, 1, 1);
        Checks.dueDuty(x, 0, 0, 0, 1, 1);
    }

    private static void dutyOfNoPart() {
        Checks.sentence("7: The least long when there is no such part");
        DutyRules x = withLot(PLAIN, 1, 0, 100);
        dueRefused(x, 0, 0, 0, -1);
        dueRefused(x, 0, 0, 0, 2);
        for (int part : Checks.EXTREME) {
            dueRefused(x, 0, 0, 0, part);
        }
        Checks.due("none of them was one", x.open(0), NONE);
        Checks.dueDuty(x, 0, 0, 0, 1, 1);
    }

    private static void reducedFraction() {
        Checks.sentence("7: a reduced fraction: above (part 0), below (part 1).");
        dueOf("rate 1 from 0 to 10000 pay 0;", 0, 1, 1, 1, 0, 100);
        dueOf(PLAIN, 0, 1, 1, 1, 0, 0);
        dueOf(PLAIN, 1, 100, 1, 1, 0, 1);
        dueOf(PLAIN, 1, 50, 1, 1, 0, 2);
        dueOf(PLAIN, 99, 100, 1, 1, 0, 99);
        dueOf(PLAIN, 101, 100, 1, 1, 0, 101);
        dueOf("rate 1 from 0 to 10000 pay 2500;", 5, 2, 1, 1, 0, 100);
        dueOf("rate 1 from 0 to 10000 pay 3;", 9, 3125, 1, 1, 0, 96);
    }

    private static void dueNothingAsked(DutyRules x) {
        for (int what = -1; what <= 3; what++) {
            Checks.due("open(" + what + ")", x.open(what), NONE);
        }
    }

    private static void openBefore() {
        Checks.sentence("8: NONE before.");
        DutyRules x = withLot(PLAIN, 1, 0, 100);
        dueNothingAsked(x);
        dueRefused(x, 30, 0, 0, 0);
        dueRefused(x, 0, -1, 0, 0);
        dueRefused(x, 0, 0, 100001, 0);
        dueRefused(x, 0, 0, 0, 2);
        x.allowed(0, 0);
        x.returned(0);
        x.difference(0, 0);
        x.interest(0, 40, 0);
        dueNothingAsked(x);
        x.duty(0, 0, 0, 0);
        Checks.due("lot", x.open(0), 0);
    }

    private static void openOfAnotherWhat() {
        Checks.sentence("8: NONE for another what");
        DutyRules x = withLot(PLAIN, 1, 0, 100);
        x.duty(0, 0, 0, 0);
        Checks.due("open(-1)", x.open(-1), NONE);
        Checks.due("open(3)", x.open(3), NONE);
        for (int what : Checks.EXTREME) {
            Checks.due("open(" + what + ")", x.open(what), NONE);
        }
        Checks.due("open(2)", x.open(2), 1);
    }

    private static void openOfAnOpenDuty() {
        Checks.sentence("8: the reason for which it was open (1; NONE when it was not), how many steps (2; 0 when it was open)");
        DutyRules x = withLot(PLAIN + "round 1;", 1, 0, 100);
        x.duty(0, 0, 0, 1);
        Checks.due("not open", x.open(1), NONE);
        Checks.due("steps", x.open(2), 2);
        x.duty(29, 0, 0, 1);
        Checks.due("lot", x.open(0), 29);
        Checks.due("open", x.open(1), 0);
        Checks.due("steps", x.open(2), 0);
        x.duty(0, 0, 0, 0);
        Checks.due("lot", x.open(0), 0);
        Checks.due("not open", x.open(1), NONE);
        Checks.due("steps", x.open(2), 2);
    }

    private static void openOfTheLastNotRefused() {
        Checks.sentence("8: Of the last duty() with a lot, days and a part that are none of the refused");
        DutyRules x = withLot(PLAIN, 1, 0, 100);
        x.duty(0, 0, 0, 0);
        dueRefused(x, 30, 0, 0, 0);
        dueRefused(x, 5, -1, 0, 0);
        dueRefused(x, 5, 0, 100001, 0);
        dueRefused(x, 5, 0, 0, 2);
        Checks.due("lot", x.open(0), 0);
        Checks.due("reason", x.open(1), NONE);
        Checks.due("steps", x.open(2), 1);
        x.duty(5, 0, 0, 0);
        dueRefused(x, 0, 0, 0, -1);
        Checks.due("lot", x.open(0), 5);
        Checks.due("reason", x.open(1), 0);
        Checks.due("steps", x.open(2), 0);
    }

    private static void stepBefore() {
        Checks.sentence("9: NONE. (before)");
        DutyRules x = withLot(PLAIN, 1, 0, 100);
        for (int lot = -1; lot <= 30; lot++) {
            for (int what = -1; what <= 3; what++) {
                Checks.due("step(" + lot + ", 0, " + what + ")", x.step(lot, 0, what), NONE);
            }
        }
        dueRefused(x, 0, 0, 0, 2);
        Checks.due("behind a refused one", x.step(0, 0, 0), NONE);
    }

    private static void stepOfAnotherLot() {
        Checks.sentence("9: if it was of that lot");
        DutyRules x = withLot(PLAIN, 1, 0, 100);
        Checks.tellFacts(x, 1, 0, 1, 0, 200);
        x.duty(1, 0, 0, 0);
        x.duty(0, 0, 0, 0);
        for (int lot = -1; lot <= 30; lot++) {
            Checks.due("step(" + lot + ", 0, 2)", x.step(lot, 0, 2), lot == 0 ? 1 : NONE);
        }
        for (int lot : Checks.EXTREME) {
            Checks.due("step(" + lot + ", 0, 2)", x.step(lot, 0, 2), NONE);
        }
    }

    private static void stepOfAnOpenDuty() {
        Checks.sentence("9: and not open");
        DutyRules x = withLot(PLAIN + "round 1;", 1, 0, 100);
        x.duty(0, 0, 0, 0);
        Checks.dueStep(x, 0, 1, 4, 1, 1);
        x.fact(0, 0, 0, 2, 1);
        Checks.dueOpen(x, 0, 0, 0, 21);
        for (int k = -1; k <= 5; k++) {
            Checks.dueStep(x, 0, k, NONE, NONE, NONE);
        }
    }

    private static void stepsOutOfRange() {
        Checks.sentence("9: Step k, from 0 .. NONE.");
        DutyRules x = withLot(PLAIN + "round 1;loss 1 upto 5;away 1 times 5;small 1 below 5 times 5;", 1, 0, 100, 0, 0, 0);
        x.duty(0, 0, 0, 0);
        Checks.due("steps", x.open(2), 5);
        for (int k = 0; k < 5; k++) {
            Checks.due("letter of step " + k, x.step(0, k, 0), k);
        }
        Checks.dueStep(x, 0, -1, NONE, NONE, NONE);
        Checks.dueStep(x, 0, 5, NONE, NONE, NONE);
        for (int k : Checks.EXTREME) {
            Checks.dueStep(x, 0, k, NONE, NONE, NONE);
        }
        x.fact(0, 0, 0, 2, 1);
        Checks.readText(x, "rate 2 from 0 to 10000 pay 1000;");
        x.edition(0);
        x.duty(0, 0, 0, 0);
        Checks.dueStep(x, 0, 0, 0, 0, 1);
        Checks.dueStep(x, 0, 1, NONE, NONE, NONE);
    }

    private static void stepOfAnotherWhat() {
        Checks.sentence("9: its letter (what = 0), the number of its rule (1), cents behind it (2). NONE.");
        DutyRules x = withLot("late 1;" + PLAIN, 1, 0, 700);
        x.duty(0, 0, 0, 0);
        Checks.dueStep(x, 0, 0, 0, 1, 7);
        Checks.due("step(0, 0, -1)", x.step(0, 0, -1), NONE);
        Checks.due("step(0, 0, 3)", x.step(0, 0, 3), NONE);
        for (int what : Checks.EXTREME) {
            Checks.due("step(0, 0, " + what + ")", x.step(0, 0, what), NONE);
        }
    }

    private static void centsRoundedDown() {
        Checks.sentence("9: cents behind it, rounded down, at most 2,147,483,647 (2).");
        DutyRules x = withLot(PLAIN + "loss 1 upto 100;away 1 times 100;round 1;", 1, 0, 199, -1, 99, 1);
        Checks.dueDuty(x, 0, 0, 0, 1, 1);
        Checks.dueStep(x, 0, 0, 0, 0, 1);
        Checks.dueStep(x, 0, 1, 1, 1, 1);
        Checks.dueStep(x, 0, 2, 2, 2, 0);
        Checks.dueStep(x, 0, 3, 4, 3, 1);
        DutyRules y = withLot("rate 1 from 0 to 10000 pay 1000000;", 1, 0, 1000000);
        y.duty(0, 0, 0, 0);
        Checks.dueStep(y, 0, 0, 0, 0, 10000000);
        y.fact(0, 2, 0, 0, 1);
        y.duty(0, 0, 0, 0);
        Checks.dueStep(y, 0, 0, 0, 0, 0);
    }

    private static void stepOfTheLastNotRefused() {
        Checks.sentence("9: of the last such duty()");
        DutyRules x = withLot(PLAIN, 1, 0, 300);
        Checks.tellFacts(x, 1, 0, 1, 0, 500);
        x.duty(0, 0, 0, 0);
        x.duty(1, -1, 0, 0);
        x.duty(1, 0, 100001, 0);
        x.duty(1, 0, 0, 2);
        x.duty(30, 0, 0, 0);
        x.fact(0, 2, 0, 900, 1);
        x.edition(0);
        x.allowed(0, 0);
        x.returned(0);
        x.difference(0, 5);
        Checks.dueStep(x, 0, 0, 0, 0, 3);
        x.duty(0, 0, 0, 1);
        Checks.dueStep(x, 0, 0, 0, 0, 9);
    }

    private static DutyRules withFreeLitre() {
        return withLot(PLAIN + "loss 1 upto 3;", 1, 0, 10000, -1, 100);
    }

    private static void allowedMonths() {
        Checks.sentence("10: NONE when the month is not 0 .. 3,000");
        DutyRules x = withFreeLitre();
        Checks.dueAllowed(x, -1, NONE, NONE);
        Checks.dueAllowed(x, 3001, NONE, NONE);
        for (int month : Checks.EXTREME) {
            Checks.dueAllowed(x, month, NONE, NONE);
        }
        // 30 times this month wraps around to a small day.
        Checks.dueAllowed(x, 143165577, NONE, NONE);
        Checks.dueAllowed(x, 0, 1, 1);
        Checks.dueAllowed(x, 3000, 1, 1);
    }

    private static void allowedParts() {
        Checks.sentence("10: NONE for another part.");
        DutyRules x = withFreeLitre();
        Checks.due("allowed(0, -1)", x.allowed(0, -1), NONE);
        Checks.due("allowed(0, 2)", x.allowed(0, 2), NONE);
        for (int part : Checks.EXTREME) {
            Checks.due("allowed(0, " + part + ")", x.allowed(0, part), NONE);
        }
    }

    private static void allowedOfNone() {
        Checks.sentence("10: The free litres (step B) of all lots .. together (of none)");
        Checks.dueAllowed(new DutyRules(), 0, 0, 1);
        Checks.dueAllowed(new DutyRules(), 3000, 0, 1);
        Checks.dueAllowed(withLot(PLAIN, 1, 0, 100, -1, 100), 0, 0, 1);
        Checks.dueAllowed(withLot(PLAIN + "loss 1 upto 5;", 1, 0, 100), 0, 0, 1);
        Checks.dueAllowed(withLot(PLAIN + "loss 1 upto 0;", 1, 0, 100, -1, 100), 0, 0, 1);
        Checks.dueAllowed(withLot(PLAIN + "loss 1 upto 1;", 1, 0, 1, -1, 1), 0, 1, 10000);
    }

    private static void allowedOfOpenDuties() {
        Checks.sentence("10: of all lots whose duty is not open");
        DutyRules x = withLot(PLAIN + "loss 1 upto 50;small 2 below 5 times 5;rate 2 from 0 to 10000 pay 0;loss 2 upto 50;",
                1, 0, 10000, -1, 100);
        Checks.tellFacts(x, 1, 0, -1, 0, 10000, 0, 100);
        Checks.tellFacts(x, 2, 0, 1, -1, 10000, 0, 100);
        Checks.tellFacts(x, 3, 0, 1, 0, -1, 0, 100);
        Checks.tellFacts(x, 4, 0, 1, 10000, 10000, 0, 100);
        Checks.tellFacts(x, 5, 0, 2, 0, 10000, -1, 100);
        Checks.dueAllowed(x, 0, 1, 1);
        x.fact(5, 3, 29, 0, 1);
        Checks.dueAllowed(x, 0, 2, 1);
        x.told(5, 3, 30);
        Checks.dueAllowed(x, 0, 1, 1);
    }

    private static void allowedOnTheLastDay() {
        Checks.sentence("10: on the last day of a month, as known on that day (Terms: MONTH m has the days 30 * m .. 30 * m + 29.)");
        DutyRules x = Checks.withEdition(PLAIN + "loss 1 upto 100;", 29);
        Checks.tellFacts(x, 0, 0, 1, 0, 10000, -1, 100);
        Checks.dueAllowed(x, 0, 1, 1);
        x.fact(0, 4, 29, 200, 1);
        Checks.dueAllowed(x, 0, 2, 1);
        x.fact(0, 4, 30, 300, 1);
        x.told(0, 4, 0);
        Checks.dueAllowed(x, 0, 2, 1);
        Checks.dueAllowed(x, 1, 3, 1);
        x.fact(0, 4, 59, 400, 1);
        x.told(0, 4, 59);
        Checks.dueAllowed(x, 1, 4, 1);
        x.told(0, 4, 60);
        Checks.dueAllowed(x, 1, 3, 1);
        Checks.dueAllowed(x, 2, 4, 1);
        x.fact(0, 4, 90029, 500, 1);
        Checks.dueAllowed(x, 3000, 5, 1);
        Checks.dueAllowed(x, 2999, 4, 1);
        x.fact(0, 4, 90030, 600, 1);
        Checks.dueAllowed(x, 3000, 5, 1);
    }

    private static void allowedOfAllLots() {
        Checks.sentence("10: of all lots .. together, in litres: a reduced fraction");
        DutyRules x = Checks.withEdition(PLAIN + "loss 1 upto 100;", 0);
        for (int lot = 0; lot < 30; lot++) {
            Checks.tellFacts(x, lot, 0, 1, 0, 1000000, -1, 1000000);
            Checks.dueAllowed(x, 0, 10000L * (lot + 1), 1);
        }
        x.fact(29, 4, 0, 1, 1);
        Checks.dueAllowed(x, 0, 29000001, 100);
        x.fact(0, 4, 0, 49, 1);
        Checks.dueAllowed(x, 0, 560001, 2);
    }
}
