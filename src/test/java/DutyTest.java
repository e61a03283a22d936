/** Promises 7 (duty), 8 (open) and 9 (step). */
public final class DutyTest {
    public static void main(String[] args) {
        reasons();
        refused();
        whichRate();
        plainDuty();
        lost();
        wentAway();
        small();
        rounding();
        allSteps();
        greatest();
        ofTheLastDuty();
        fortyRules();
        Checks.end();
    }

    private static void reasons() {
        DutyRules x = new DutyRules();
        Checks.dueOpen(x, 3, 10, 10, 20);
        Checks.readText(x, "rate 1 from 100 to 200 pay 1000;small 1 below 5 times 50;small 2 below 5 times 50;");
        x.edition(10);
        Checks.dueOpen(x, 3, 9, 10, 20);
        Checks.dueOpen(x, 3, 10, 10, 0);
        x.fact(3, 0, 10, 2, 1);
        Checks.dueOpen(x, 3, 10, 10, 1);
        x.fact(3, 1, 10, 100, 1);
        Checks.dueOpen(x, 3, 10, 10, 2);
        x.fact(3, 2, 10, 0, 1);
        Checks.dueOpen(x, 3, 10, 10, 21);
        x.fact(3, 0, 10, 1, 1);
        Checks.dueOpen(x, 3, 10, 10, 3);
        x.fact(3, 3, 10, 5, 1);
        Checks.dueDuty(x, 3, 10, 10, 0, 1);
        Checks.due("reason", x.open(1), DutyRules.NONE);
        DutyRules y = new DutyRules();
        y.edition(0);
        y.fact(0, 2, 0, 5, 1);
        Checks.dueOpen(y, 0, 0, 0, 0);
        y.fact(0, 0, 0, 5, 1);
        Checks.dueOpen(y, 0, 0, 0, 1);
    }

    private static void dueRefused(DutyRules x, int lot, long day, long on, int part) {
        Checks.due("duty(" + lot + ", " + day + ", " + on + ", " + part + ")",
                x.duty(lot, day, on, part), Checks.LEAST);
    }

    private static void refused() {
        DutyRules x = Checks.withEdition("rate 1 from 0 to 10000 pay 1000;", 0);
        Checks.tellFacts(x, 0, 0, 1, 0, 100);
        dueRefused(x, -1, 0, 0, 0);
        dueRefused(x, 30, 0, 0, 0);
        dueRefused(x, 0, 0, 0, 2);
        Checks.due("open before", x.open(0), DutyRules.NONE);
        Checks.due("open before", x.open(2), DutyRules.NONE);
        Checks.due("duty", x.duty(0, 100000, 100000, 0), 1);
        dueRefused(x, Integer.MIN_VALUE, 0, 0, 0);
        dueRefused(x, Integer.MAX_VALUE, 0, 0, 0);
        dueRefused(x, 29, -1, 0, 0);
        dueRefused(x, 29, 100001, 0, 0);
        dueRefused(x, 29, 1L << 32, 0, 0);
        dueRefused(x, 29, 0, -1, 0);
        dueRefused(x, 29, 0, 100001, 0);
        dueRefused(x, 29, 0, 1L << 32, 0);
        dueRefused(x, 29, 0, 0, -1);
        dueRefused(x, 29, 0, 0, 2);
        Checks.due("lot of the last that was not refused", x.open(0), 0);
        Checks.due("its reason", x.open(1), DutyRules.NONE);
        Checks.due("its steps", x.open(2), 1);
        Checks.due("another what", x.open(3), DutyRules.NONE);
        Checks.due("another what", x.open(-1), DutyRules.NONE);
        Checks.dueStep(x, 0, 0, 0, 0, 1);
    }

    private static void whichRate() {
        DutyRules x = Checks.withEdition("rate 2 from 0 to 10000 pay 9000;rate 1 from 100 to 200 pay 1000;"
                + "rate 1 from 150 to 300 pay 2000;rate 1 from 0 to 400 pay 3000;", 0);
        int[] strengths = {0, 99, 100, 199, 200, 299, 300, 399, 400, 10000};
        int[] rules = {3, 3, 1, 1, 2, 2, 3, 3, -1, -1};
        for (int i = 0; i < strengths.length; i++) {
            Checks.tellFacts(x, i, 0, 1, strengths[i], 100);
            if (rules[i] < 0) {
                Checks.dueOpen(x, i, 0, 0, 21);
            } else {
                Checks.dueDuty(x, i, 0, 0, rules[i], 1);
                Checks.dueStep(x, i, 0, 0, rules[i], rules[i]);
            }
        }
    }

    private static void plainDuty() {
        DutyRules x = Checks.withEdition("rate 1 from 0 to 1 pay 1;rate 1 from 1 to 2 pay 0;"
                + "rate 1 from 2 to 3 pay 2450;", 0);
        Checks.tellFacts(x, 0, 0, 1, 0, 1);
        Checks.dueDuty(x, 0, 0, 0, 1, 100000);
        Checks.tellFacts(x, 1, 0, 1, 1, 777);
        Checks.dueDuty(x, 1, 0, 0, 0, 1);
        Checks.tellFacts(x, 2, 0, 1, 2, 150);
        Checks.dueDuty(x, 2, 0, 0, 147, 40);
        Checks.dueStep(x, 2, 0, 0, 2, 3);
        Checks.tellFacts(x, 3, 0, 1, 2, 0);
        Checks.dueDuty(x, 3, 0, 0, 0, 1);
        Checks.due("steps", x.open(2), 1);
    }

    private static void lost() {
        DutyRules x = Checks.withEdition("loss 2 upto 50;rate 1 from 0 to 10000 pay 1000;"
                + "rate 2 from 0 to 10000 pay 1000;loss 1 upto 3;loss 1 upto 90;", 0);
        Checks.tellFacts(x, 0, 0, 1, 0, 10000);
        Checks.dueDuty(x, 0, 0, 0, 100, 1);
        Checks.due("no step without lost litres", x.open(2), 1);
        x.fact(0, 4, 0, 299, 1);
        Checks.dueDuty(x, 0, 0, 0, 9701, 100);
        Checks.due("steps", x.open(2), 2);
        Checks.dueStep(x, 0, 0, 0, 1, 100);
        Checks.dueStep(x, 0, 1, 1, 3, 97);
        x.fact(0, 4, 0, 301, 1);
        Checks.dueDuty(x, 0, 0, 0, 97, 1);
        Checks.tellFacts(x, 1, 0, 2, 0, 101, -1, 1000000);
        Checks.dueDuty(x, 1, 0, 0, 101, 200);
        Checks.dueStep(x, 1, 1, 1, 0, 0);
        Checks.readText(x, "rate 1 from 0 to 10000 pay 1000;loss 2 upto 3;");
        x.edition(1);
        Checks.dueDuty(x, 0, 1, 1, 100, 1);
        Checks.due("no step without a rule", x.open(2), 1);
        Checks.tellFacts(x, 2, 0, 1, 0, 100, -1, 0);
        Checks.dueDuty(x, 2, 0, 0, 1, 1);
        Checks.due("none lost is told, too", x.open(2), 2);
    }

    private static void wentAway() {
        DutyRules x = Checks.withEdition("rate 1 from 0 to 10000 pay 1000;away 2 times 100;"
                + "away 1 times 90;away 1 times 10;", 0);
        Checks.tellFacts(x, 0, 0, 1, 0, 10000);
        Checks.dueDuty(x, 0, 0, 0, 100, 1);
        Checks.due("no step without litres away", x.open(2), 1);
        x.fact(0, 5, 0, 1001, 1);
        Checks.dueDuty(x, 0, 0, 0, 90991, 1000);
        Checks.dueStep(x, 0, 1, 2, 2, 90);
        x.fact(0, 5, 0, 20000, 1);
        Checks.dueDuty(x, 0, 0, 0, 10, 1);
        x.fact(0, 4, 0, 5000, 1);
        Checks.dueDuty(x, 0, 0, 0, 10, 1);
        Checks.readText(x, "away 1 times 50;rate 1 from 0 to 10000 pay 1000;loss 1 upto 33;");
        x.edition(1);
        Checks.dueDuty(x, 0, 1, 1, 67, 2);
        Checks.due("steps", x.open(2), 3);
        Checks.dueStep(x, 0, 1, 1, 2, 67);
        Checks.dueStep(x, 0, 2, 2, 0, 33);
        Checks.readText(x, "rate 1 from 0 to 10000 pay 1000;away 0 times 90;");
        x.edition(2);
        Checks.dueDuty(x, 0, 2, 2, 100, 1);
        Checks.due("no step without a rule", x.open(2), 1);
    }

    private static void small() {
        DutyRules x = Checks.withEdition("rate 1 from 0 to 10000 pay 1000;small 2 below 9999 times 1;"
                + "small 1 below 500 times 33;small 1 below 1000 times 66;", 0);
        Checks.tellFacts(x, 0, 0, 1, 0, 10000, 499);
        Checks.dueDuty(x, 0, 0, 0, 33, 1);
        Checks.due("steps", x.open(2), 2);
        Checks.dueStep(x, 0, 1, 3, 2, 33);
        x.fact(0, 3, 0, 500, 1);
        Checks.dueDuty(x, 0, 0, 0, 100, 1);
        Checks.due("steps", x.open(2), 1);
        Checks.due("no second step", x.step(0, 1, 0), DutyRules.NONE);
        x.fact(0, 3, 0, 0, 1);
        Checks.dueDuty(x, 0, 0, 0, 33, 1);
    }

    private static void dueRounded(int n, int litres, int pay, long above) {
        DutyRules x = Checks.withEdition("round " + n + ";rate 1 from 0 to 10000 pay " + pay + ";", 0);
        Checks.tellFacts(x, 0, 0, 1, 0, litres);
        Checks.dueDuty(x, 0, 0, 0, above, 1);
        Checks.due("steps", x.open(2), 2);
        Checks.dueStep(x, 0, 1, 4, 0, (int) above);
    }

    private static void rounding() {
        dueRounded(1, 100, 499, 0);
        dueRounded(1, 100, 500, 1);
        dueRounded(1, 100, 1499, 1);
        dueRounded(1, 100, 1500, 2);
        dueRounded(5, 100, 2499, 0);
        dueRounded(5, 100, 2500, 5);
        dueRounded(5, 100, 5000, 5);
        dueRounded(5, 100, 7499, 5);
        dueRounded(5, 100, 7500, 10);
        dueRounded(2, 100, 1000, 2);
        dueRounded(1000, 1000000, 1000000, 10000000);
        dueRounded(1000, 100, 499999, 0);
        dueRounded(1000, 100, 500000, 1000);
        dueRounded(3, 49999, 3, 0);
        dueRounded(3, 50001, 3, 3);
        dueRounded(3, 49999, 1, 0);
        dueRounded(7, 0, 1, 0);
    }

    private static void allSteps() {
        DutyRules x = Checks.withEdition("late 5;round 3;away 1 times 77;small 1 below 2 times 37;"
                + "loss 1 upto 7;rate 1 from 0 to 10000 pay 999999;", 0);
        Checks.tellFacts(x, 7, 0, 1, 0, 99999, 1, 99999, 12345);
        // 999.99 litres at 999.999 cents; 69.9993 litres are free, 123.45 went away.
        Checks.dueDuty(x, 7, 0, 0, 308925, 1);
        Checks.due("steps", x.open(2), 5);
        Checks.dueStep(x, 7, 0, 0, 5, 999989);
        Checks.dueStep(x, 7, 1, 1, 4, 929989);
        Checks.dueStep(x, 7, 2, 2, 2, 834933);
        Checks.dueStep(x, 7, 3, 3, 3, 308925);
        Checks.dueStep(x, 7, 4, 4, 1, 308925);
        Checks.due("step -1", x.step(7, -1, 0), DutyRules.NONE);
        Checks.due("step 5", x.step(7, 5, 0), DutyRules.NONE);
        Checks.due("least step", x.step(7, Integer.MIN_VALUE, 0), DutyRules.NONE);
        Checks.due("greatest step", x.step(7, Integer.MAX_VALUE, 0), DutyRules.NONE);
        Checks.due("another what", x.step(7, 0, 3), DutyRules.NONE);
        Checks.due("another what", x.step(7, 0, -1), DutyRules.NONE);
        Checks.due("another lot", x.step(6, 0, 0), DutyRules.NONE);
    }

    private static void greatest() {
        DutyRules x = Checks.withEdition("rate 9 from 0 to 10000 pay 1000000;small 9 below 100000000 times 100;"
                + "away 9 times 100;loss 9 upto 100;", 0);
        Checks.tellFacts(x, 29, 0, 9, 9999, 1000000, 99999999, 0, 0);
        Checks.dueDuty(x, 29, 100000, 100000, 10000000, 1);
        Checks.dueStep(x, 29, 3, 3, 1, 10000000);
        Checks.tellFacts(x, 28, 0, 9, 9999, 1000000, 99999999, 0, 1000000);
        Checks.dueDuty(x, 28, 100000, 100000, 0, 1);
        Checks.tellFacts(x, 27, 0, 9, 9999, 1000000, 99999999, 1000000, 1000000);
        Checks.dueDuty(x, 27, 100000, 100000, 0, 1);
        Checks.dueStep(x, 27, 1, 1, 3, 0);
        DutyRules y = Checks.withEdition("rate 0 from 0 to 1 pay 1;loss 0 upto 1;away 0 times 1;small 0 below 1 times 1;", 0);
        Checks.tellFacts(y, 0, 0, 0, 0, 1, 0, 1, 1);
        // 1/100 litre, a hundredth of it free, the rest away by a hundredth, a hundredth of that.
        Checks.dueDuty(y, 0, 0, 0, 9801, 100000000000L);
    }

    private static void fortyRules() {
        DutyRules x = Checks.withEdition("loss 2 upto 5;".repeat(39) + "rate 1 from 0 to 10000 pay 1000;", 0);
        Checks.tellFacts(x, 0, 0, 1, 0, 100, 0, 100, 100);
        Checks.tellFacts(x, 1, 0, 2, 0, 100, 0, 100, 100);
        Checks.dueDuty(x, 0, 0, 0, 1, 1);
        Checks.dueStep(x, 0, 0, 0, 39, 1);
        Checks.dueOpen(x, 1, 0, 0, 21);
    }

    private static void ofTheLastDuty() {
        DutyRules x = Checks.withEdition("rate 1 from 0 to 10000 pay 1000;late 3;", 0);
        Checks.tellFacts(x, 4, 0, 1, 0, 100);
        Checks.tellFacts(x, 5, 0, 1, 0, 200);
        x.duty(4, 0, 0, 1);
        x.fact(4, 2, 0, 900, 1);
        x.edition(0);
        x.allowed(0, 0);
        x.returned(0);
        x.difference(0, 5);
        x.interest(0, 50, 0);
        Checks.due("lot", x.open(0), 4);
        Checks.due("reason", x.open(1), DutyRules.NONE);
        Checks.due("steps", x.open(2), 1);
        Checks.dueStep(x, 4, 0, 0, 0, 1);
        Checks.due("of another lot", x.step(5, 0, 2), DutyRules.NONE);
        x.duty(6, 0, 0, 0);
        Checks.due("lot of an open one", x.open(0), 6);
        Checks.due("its reason", x.open(1), 0);
        Checks.due("its steps", x.open(2), 0);
        Checks.due("no step of it", x.step(6, 0, 0), DutyRules.NONE);
        Checks.due("nor of the one before", x.step(4, 0, 0), DutyRules.NONE);
    }
}
