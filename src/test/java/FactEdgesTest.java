/** The boundary cases of editions and facts: a test for each sentence of Terms and of promises 1, 4, 5 and 6. */
public final class FactEdgesTest {
    private static final long[] GREATEST = {9, 10000, 1000000, 100000000, 1000000, 1000000};

    /** A cent for a litre of goods 1, five for a litre of goods 2. */
    private static final String RATES = "rate 1 from 0 to 10000 pay 1000;rate 2 from 0 to 10000 pay 5000;";

    public static void main(String[] args) {
        noEditions();
        noFacts();
        editionOfNothing();
        editionNumbers();
        editionOnAnotherDay();
        tenEditions();
        latestEditionNotAbove();
        editionsOfOneDay();
        editionKeepsItsRules();
        lotsOfFacts();
        kindsOfFacts();
        daysOfFacts();
        belows();
        wholeNumbers();
        leastValues();
        greatestValues();
        threeHundredFacts();
        knownFromItsDayOn();
        latestFactNotAbove();
        factsThatAreKnown();
        factsOfOneDay();
        toldOfNone();
        toldOnNoDay();
        toldOnEdges();
        toldOfTheLast();
        refusedToldChangesNothing();
        Checks.end();
    }

    private static void dueFact(DutyRules x, int lot, int kind, long day, long above, long below, boolean want) {
        Checks.due("fact(" + lot + ", " + kind + ", " + day + ", " + above + ", " + below + ")",
                x.fact(lot, kind, day, above, below), want);
    }

    private static void dueTold(DutyRules x, int lot, int kind, long on, boolean want) {
        Checks.due("told(" + lot + ", " + kind + ", " + on + ")", x.told(lot, kind, on), want);
    }

    private static void tellEdition(DutyRules x, int pay, long from) {
        Checks.readText(x, "rate 1 from 0 to 10000 pay " + pay + ";");
        x.edition(from);
    }

    /** With a litre of goods 1 in lot 0 from a day on. */
    private static DutyRules withLitre(long day) {
        DutyRules x = Checks.withEdition(RATES, 0);
        Checks.tellFacts(x, 0, day, 1, 0, 100);
        return x;
    }

    private static void noEditions() {
        Checks.sentence("1: no editions");
        DutyRules x = new DutyRules();
        Checks.tellFacts(x, 0, 0, 0, 0, 0, 0, 0, 0);
        Checks.dueOpen(x, 0, 0, 0, 20);
        Checks.dueOpen(x, 0, 100000, 100000, 20);
        Checks.due("first edition", x.edition(0), 0);
    }

    private static void noFacts() {
        Checks.sentence("1: no facts");
        DutyRules x = Checks.withEdition(RATES, 0);
        for (int lot = 0; lot < 30; lot++) {
            Checks.dueOpen(x, lot, 100000, 100000, 0);
            for (int kind = 0; kind < 6; kind++) {
                dueTold(x, lot, kind, 0, false);
            }
        }
    }

    private static void editionOfNothing() {
        Checks.sentence("4: An edition of what was read last (nothing: no rules)");
        DutyRules x = new DutyRules();
        Checks.tellFacts(x, 0, 0, 1, 0, 100);
        Checks.due("edition", x.edition(5), 0);
        Checks.dueOpen(x, 0, 4, 0, 20);
        Checks.dueOpen(x, 0, 5, 0, 21);
        Checks.tell(x, RATES);
        Checks.due("edition of a text that is not read", x.edition(5), 1);
        Checks.dueOpen(x, 0, 5, 0, 21);
        Checks.due("read", x.read(), 2);
        Checks.dueOpen(x, 0, 5, 0, 21);
        Checks.due("edition of what was read", x.edition(5), 2);
        Checks.dueDuty(x, 0, 5, 0, 1, 1);
        Checks.due("read of no text", x.read(), 0);
        Checks.due("edition of no rules", x.edition(5), 3);
        Checks.dueOpen(x, 0, 5, 0, 21);
    }

    private static void editionNumbers() {
        Checks.sentence("4: its number, from 0.");
        DutyRules x = new DutyRules();
        long[] days = {100000, 0, 0, 50, 100000, 1};
        for (int i = 0; i < days.length; i++) {
            Checks.due("edition(" + days[i] + ")", x.edition(days[i]), i);
        }
    }

    private static void editionOnAnotherDay() {
        Checks.sentence("4: NONE, refused, for another day (Terms: Days are 0 .. 100,000.)");
        DutyRules x = withLitre(0);
        Checks.readText(x, "rate 1 from 0 to 10000 pay 9000;");
        Checks.due("edition(-1)", x.edition(-1), DutyRules.NONE);
        Checks.due("edition(100001)", x.edition(100001), DutyRules.NONE);
        for (long day : Checks.WRAPPING) {
            Checks.due("edition(" + day + ")", x.edition(day), DutyRules.NONE);
        }
        Checks.dueDuty(x, 0, 0, 0, 1, 1);
        Checks.dueDuty(x, 0, 100000, 0, 1, 1);
        Checks.due("edition(100000)", x.edition(100000), 1);
        Checks.due("edition(0)", x.edition(0), 2);
        Checks.dueDuty(x, 0, 0, 0, 9, 1);
    }

    private static void tenEditions() {
        Checks.sentence("4: FULL when there are 10.");
        DutyRules x = new DutyRules();
        Checks.tellFacts(x, 0, 0, 1, 0, 100);
        for (int i = 0; i < 10; i++) {
            Checks.due("refused", x.edition(-1), DutyRules.NONE);
            Checks.readText(x, "rate 1 from 0 to 10000 pay " + (i + 1) + "000;");
            Checks.due("edition " + i, x.edition(10 * i), i);
        }
        Checks.readText(x, "rate 1 from 0 to 10000 pay 99000;");
        long[] days = {0, 5, 90, 100000};
        for (long day : days) {
            Checks.due("edition(" + day + ")", x.edition(day), DutyRules.FULL);
        }
        for (int i = 0; i < 10; i++) {
            Checks.dueDuty(x, 0, 10 * i, 0, i + 1, 1);
            Checks.dueDuty(x, 0, 10 * i + 9, 0, i + 1, 1);
        }
        Checks.dueDuty(x, 0, 100000, 0, 10, 1);
        Checks.due("another day when full", x.edition(100001), DutyRules.NONE);
    }

    private static void latestEditionNotAbove() {
        Checks.sentence("Terms: On a day the edition with the latest day not above it holds");
        DutyRules x = new DutyRules();
        Checks.tellFacts(x, 0, 0, 1, 0, 100);
        tellEdition(x, 3000, 30);
        tellEdition(x, 1000, 10);
        tellEdition(x, 2000, 20);
        tellEdition(x, 4000, 100000);
        Checks.dueOpen(x, 0, 0, 100000, 20);
        Checks.dueOpen(x, 0, 9, 100000, 20);
        Checks.dueDuty(x, 0, 10, 0, 1, 1);
        Checks.dueDuty(x, 0, 19, 0, 1, 1);
        Checks.dueDuty(x, 0, 20, 0, 2, 1);
        Checks.dueDuty(x, 0, 29, 100000, 2, 1);
        Checks.dueDuty(x, 0, 30, 0, 3, 1);
        Checks.dueDuty(x, 0, 99999, 0, 3, 1);
        Checks.dueDuty(x, 0, 100000, 0, 4, 1);
        tellEdition(x, 5000, 0);
        Checks.dueDuty(x, 0, 0, 0, 5, 1);
        Checks.dueDuty(x, 0, 9, 0, 5, 1);
        Checks.dueDuty(x, 0, 10, 0, 1, 1);
    }

    private static void editionsOfOneDay() {
        Checks.sentence("Terms: of one day that which was told last");
        long[] days = {0, 17, 100000};
        for (long day : days) {
            DutyRules x = new DutyRules();
            Checks.tellFacts(x, 0, 0, 1, 0, 100);
            tellEdition(x, 1000, day);
            tellEdition(x, 2000, day);
            Checks.dueDuty(x, 0, day, 0, 2, 1);
            tellEdition(x, 3000, 0);
            Checks.dueDuty(x, 0, day, 0, day == 0 ? 3 : 2, 1);
            tellEdition(x, 4000, day);
            Checks.dueDuty(x, 0, day, 0, 4, 1);
        }
    }

    private static void editionKeepsItsRules() {
        Checks.sentence("Terms: what was read last holds from a day on.");
        DutyRules x = withLitre(0);
        Checks.readText(x, "rate 1 from 0 to 10000 pay 7000;");
        Checks.dueDuty(x, 0, 0, 0, 1, 1);
        Checks.readText(x, "x");
        Checks.due("edition behind a wrong word", x.edition(0), 1);
        Checks.dueDuty(x, 0, 0, 0, 7, 1);
        Checks.due("the same once more", x.edition(40), 2);
        Checks.dueDuty(x, 0, 40, 0, 7, 1);
    }

    private static void lotsOfFacts() {
        Checks.sentence("5: False, refused, when there is no such lot (Terms: LOTS (0 .. 29))");
        DutyRules x = Checks.withEdition(RATES, 0);
        dueFact(x, -1, 0, 0, 1, 1, false);
        dueFact(x, 30, 0, 0, 1, 1, false);
        for (int lot : Checks.EXTREME) {
            dueFact(x, lot, 0, 0, 1, 1, false);
        }
        for (int lot = 0; lot < 30; lot++) {
            Checks.dueOpen(x, lot, 0, 0, 0);
            dueFact(x, lot, 0, 0, 1, 1, true);
            Checks.dueOpen(x, lot, 0, 0, 1);
        }
    }

    private static void kindsOfFacts() {
        Checks.sentence("5: False, refused, when there is no such kind (Terms: kinds 0 .. 5)");
        DutyRules x = Checks.withEdition(RATES, 0);
        for (int lot = 0; lot < 30; lot++) {
            dueFact(x, lot, -1, 0, 1, 1, false);
            dueFact(x, lot, 6, 0, 1, 1, false);
        }
        for (int kind : Checks.EXTREME) {
            dueFact(x, 0, kind, 0, 1, 1, false);
        }
        for (int kind = 0; kind < 6; kind++) {
            dueTold(x, 0, kind, 0, false);
            dueTold(x, 1, kind, 0, false);
            dueTold(x, 29, kind, 0, false);
        }
        for (int kind = 0; kind < 6; kind++) {
            dueFact(x, 0, kind, 0, 1, 1, true);
            dueTold(x, 0, kind, 0, true);
            dueTold(x, 1, kind, 0, false);
        }
    }

    private static void daysOfFacts() {
        Checks.sentence("5: False, refused, when there is no such day (Terms: Days are 0 .. 100,000.)");
        DutyRules x = Checks.withEdition(RATES, 0);
        for (int kind = 0; kind < 6; kind++) {
            dueFact(x, 0, kind, -1, 1, 1, false);
            dueFact(x, 0, kind, 100001, 1, 1, false);
        }
        for (long day : Checks.WRAPPING) {
            dueFact(x, 0, 0, day, 1, 1, false);
        }
        Checks.dueOpen(x, 0, 100000, 100000, 0);
        Checks.tellFacts(x, 0, 100000, 1, 0, 100);
        Checks.dueOpen(x, 0, 99999, 100000, 0);
        Checks.dueDuty(x, 0, 100000, 100000, 1, 1);
        Checks.tellFacts(x, 0, 0, 1, 0, 200);
        Checks.dueDuty(x, 0, 0, 0, 2, 1);
    }

    private static void belows() {
        Checks.sentence("5: False, refused, when below is not 1 .. 100");
        DutyRules x = new DutyRules();
        long[] refused = {0, -1, 101, 102, -100, 200};
        for (long below : refused) {
            dueFact(x, 0, 2, 0, 0, below, false);
            dueFact(x, 0, 2, 0, below, below, false);
        }
        for (long below : Checks.WRAPPING) {
            dueFact(x, 0, 2, 0, 0, below, false);
            dueFact(x, 0, 2, 0, below, below, false);
        }
        dueTold(x, 0, 2, 0, false);
        for (long below = 1; below <= 100; below++) {
            dueFact(x, 0, 2, 0, 7 * below, below, true);
        }
    }

    private static void wholeNumbers() {
        Checks.sentence("5: False, refused, when the value is no whole number");
        DutyRules x = Checks.withEdition(RATES, 0);
        for (int kind = 0; kind < 6; kind++) {
            for (long below = 2; below <= 100; below++) {
                dueFact(x, 0, kind, 0, 1, below, false);
                dueFact(x, 0, kind, 0, below - 1, below, false);
                dueFact(x, 0, kind, 0, below + 1, below, false);
                dueFact(x, 0, kind, 0, -1, below, false);
                dueFact(x, 0, kind, 0, 9 * below + 1, below, false);
            }
            dueFact(x, 0, kind, 0, GREATEST[kind] * 100 - 1, 100, false);
            dueFact(x, 0, kind, 0, GREATEST[kind] * 100 + 1, 100, false);
            dueTold(x, 0, kind, 0, false);
        }
        dueFact(x, 0, 0, 0, 100, 100, true);
        dueFact(x, 0, 1, 0, 0, 3, true);
        dueFact(x, 0, 2, 0, 2100, 7, true);
        Checks.dueDuty(x, 0, 0, 0, 3, 1);
    }

    private static void leastValues() {
        Checks.sentence("5: False, refused, when the value is out of its range (too small)");
        DutyRules x = new DutyRules();
        for (int kind = 0; kind < 6; kind++) {
            dueFact(x, 0, kind, 0, -1, 1, false);
            dueFact(x, 0, kind, 0, -100, 100, false);
            dueFact(x, 0, kind, 0, -100, 1, false);
            dueFact(x, 0, kind, 0, Long.MIN_VALUE, 1, false);
            dueFact(x, 0, kind, 0, Long.MIN_VALUE, 64, false);
            dueFact(x, 0, kind, 0, Long.MIN_VALUE + 1, 1, false);
            dueFact(x, 0, kind, 0, -(1L << 32), 1, false);
            dueTold(x, 0, kind, 0, false);
            dueFact(x, 0, kind, 0, 0, 1, true);
            dueFact(x, 0, kind, 0, 0, 100, true);
        }
    }

    private static void greatestValues() {
        Checks.sentence("5: False, refused, when the value is out of its range (too large)");
        DutyRules x = new DutyRules();
        for (int kind = 0; kind < 6; kind++) {
            dueFact(x, 0, kind, 0, GREATEST[kind] + 1, 1, false);
            dueFact(x, 0, kind, 0, (GREATEST[kind] + 1) * 100, 100, false);
            dueFact(x, 0, kind, 0, GREATEST[kind] + (1L << 32), 1, false);
            dueFact(x, 0, kind, 0, 1L << 32, 1, false);
            dueFact(x, 0, kind, 0, (1L << 32) * 64, 64, false);
            dueFact(x, 0, kind, 0, Long.MAX_VALUE, 1, false);
            dueFact(x, 0, kind, 0, Long.MAX_VALUE, 7, false);
            dueTold(x, 0, kind, 0, false);
            dueFact(x, 0, kind, 0, GREATEST[kind], 1, true);
            dueFact(x, 0, kind, 0, GREATEST[kind] * 100, 100, true);
        }
    }

    private static void threeHundredFacts() {
        Checks.sentence("5: False, refused, when 300 were told.");
        DutyRules x = Checks.withEdition(RATES, 0);
        Checks.tellFacts(x, 0, 0, 1, 0, 100);
        for (int i = 3; i < 299; i++) {
            dueFact(x, i % 29 + 1, i % 6, i % 50, 1, 1, true);
            dueFact(x, i % 29 + 1, i % 6, i % 50, -1, 1, false);
            dueTold(x, i % 29 + 1, i % 6, 5, true);
        }
        dueFact(x, 0, 2, 0, 200, 1, true);
        dueFact(x, 0, 2, 0, 300, 1, false);
        dueFact(x, 0, 3, 0, 300, 1, false);
        dueFact(x, 29, 5, 100000, 0, 1, false);
        Checks.dueDuty(x, 0, 0, 0, 2, 1);
        dueTold(x, 0, 2, 1, true);
        dueTold(x, 0, 3, 1, false);
        Checks.dueDuty(x, 0, 0, 0, 1, 1);
        Checks.dueDuty(x, 0, 0, 1, 2, 1);
        DutyRules y = new DutyRules();
        for (int i = 0; i < 300; i++) {
            dueFact(y, 7, 2, 0, i, 1, true);
        }
        dueFact(y, 7, 2, 0, 0, 1, false);
    }

    private static void knownFromItsDayOn() {
        Checks.sentence("5: known from that day on");
        DutyRules x = withLitre(10);
        dueFact(x, 0, 2, 20, 300, 1, true);
        Checks.dueOpen(x, 0, 100000, 9, 0);
        Checks.dueDuty(x, 0, 100000, 10, 1, 1);
        Checks.dueDuty(x, 0, 100000, 19, 1, 1);
        Checks.dueDuty(x, 0, 100000, 20, 3, 1);
        Checks.dueDuty(x, 0, 100000, 100000, 3, 1);
    }

    private static void latestFactNotAbove() {
        Checks.sentence("Terms: the fact of a lot and kind with the latest day not above the first holds");
        DutyRules x = withLitre(10);
        dueFact(x, 0, 2, 30, 300, 1, true);
        dueFact(x, 0, 2, 20, 200, 1, true);
        dueFact(x, 0, 2, 100000, 400, 1, true);
        dueFact(x, 1, 2, 15, 900, 1, true);
        dueFact(x, 0, 3, 15, 900, 1, true);
        Checks.dueOpen(x, 0, 9, 100000, 0);
        Checks.dueDuty(x, 0, 10, 100000, 1, 1);
        Checks.dueDuty(x, 0, 19, 100000, 1, 1);
        Checks.dueDuty(x, 0, 20, 100000, 2, 1);
        Checks.dueDuty(x, 0, 29, 100000, 2, 1);
        Checks.dueDuty(x, 0, 30, 100000, 3, 1);
        Checks.dueDuty(x, 0, 99999, 100000, 3, 1);
        Checks.dueDuty(x, 0, 100000, 100000, 4, 1);
    }

    private static void factsThatAreKnown() {
        Checks.sentence("Terms: among those that are known on the second");
        DutyRules x = withLitre(10);
        dueFact(x, 0, 2, 20, 200, 1, true);
        dueTold(x, 0, 2, 50, true);
        dueFact(x, 0, 2, 30, 300, 1, true);
        dueTold(x, 0, 2, 40, true);
        Checks.dueDuty(x, 0, 100, 39, 1, 1);
        Checks.dueDuty(x, 0, 100, 40, 3, 1);
        Checks.dueDuty(x, 0, 29, 40, 1, 1);
        Checks.dueDuty(x, 0, 29, 49, 1, 1);
        Checks.dueDuty(x, 0, 29, 50, 2, 1);
        Checks.dueDuty(x, 0, 100, 50, 3, 1);
        dueTold(x, 0, 2, 0, true);
        Checks.dueDuty(x, 0, 30, 10, 3, 1);
        Checks.dueDuty(x, 0, 29, 10, 1, 1);
    }

    private static void factsOfOneDay() {
        Checks.sentence("Terms: of one day that which was told last");
        DutyRules x = withLitre(10);
        dueFact(x, 0, 2, 10, 200, 1, true);
        Checks.dueDuty(x, 0, 10, 10, 2, 1);
        dueFact(x, 0, 2, 10, 300, 1, true);
        Checks.dueDuty(x, 0, 10, 10, 3, 1);
        dueTold(x, 0, 2, 40, true);
        Checks.dueDuty(x, 0, 10, 39, 2, 1);
        Checks.dueDuty(x, 0, 10, 40, 3, 1);
        dueFact(x, 0, 2, 9, 400, 1, true);
        Checks.dueDuty(x, 0, 10, 40, 3, 1);
        dueFact(x, 0, 2, 10, 100, 1, true);
        Checks.dueDuty(x, 0, 10, 10, 1, 1);
        Checks.dueDuty(x, 0, 100000, 100000, 1, 1);
    }

    private static void toldOfNone() {
        Checks.sentence("6: False, refused, when there is none");
        DutyRules x = new DutyRules();
        dueFact(x, 0, 0, 0, 1, 1, true);
        dueFact(x, 29, 5, 0, 1, 1, true);
        dueFact(x, 3, 2, 0, -1, 1, false);
        dueTold(x, 3, 2, 0, false);
        for (int lot = -1; lot <= 30; lot++) {
            for (int kind = -1; kind <= 6; kind++) {
                dueTold(x, lot, kind, 0, (lot == 0 && kind == 0) || (lot == 29 && kind == 5));
            }
        }
        for (int extreme : Checks.EXTREME) {
            dueTold(x, extreme, 0, 0, false);
            dueTold(x, 0, extreme, 0, false);
            dueTold(x, extreme, extreme, 0, false);
        }
        dueTold(x, 1, -6, 0, false);
        dueTold(x, -1, 6, 0, false);
        dueTold(x, 28, 11, 0, false);
    }

    private static void toldOnNoDay() {
        Checks.sentence("6: False, refused, when there is no such day.");
        DutyRules x = withLitre(10);
        dueTold(x, 0, 2, -1, false);
        dueTold(x, 0, 2, 100001, false);
        for (long day : Checks.WRAPPING) {
            dueTold(x, 0, 2, day, false);
        }
        Checks.dueOpen(x, 0, 10, 9, 0);
        Checks.dueDuty(x, 0, 10, 10, 1, 1);
    }

    private static void toldOnEdges() {
        Checks.sentence("6: is known from another day on: true.");
        DutyRules x = withLitre(10);
        for (int kind = 0; kind < 3; kind++) {
            dueTold(x, 0, kind, 0, true);
        }
        Checks.dueDuty(x, 0, 10, 0, 1, 1);
        Checks.dueOpen(x, 0, 9, 100000, 0);
        dueTold(x, 0, 1, 100000, true);
        Checks.dueOpen(x, 0, 10, 99999, 1);
        Checks.dueDuty(x, 0, 10, 100000, 1, 1);
        dueTold(x, 0, 1, 10, true);
        Checks.dueOpen(x, 0, 10, 9, 1);
        Checks.dueDuty(x, 0, 10, 10, 1, 1);
    }

    private static void toldOfTheLast() {
        Checks.sentence("6: The fact of a lot and kind that was told last");
        DutyRules x = withLitre(10);
        dueFact(x, 0, 2, 30, 300, 1, true);
        dueFact(x, 0, 2, 20, 200, 1, true);
        dueFact(x, 1, 2, 20, 900, 1, true);
        dueFact(x, 0, 3, 20, 900, 1, true);
        dueTold(x, 0, 2, 50, true);
        Checks.dueDuty(x, 0, 29, 49, 1, 1);
        Checks.dueDuty(x, 0, 29, 50, 2, 1);
        Checks.dueDuty(x, 0, 30, 30, 3, 1);
        dueFact(x, 0, 2, 25, -1, 1, false);
        dueTold(x, 0, 2, 60, true);
        Checks.dueDuty(x, 0, 29, 59, 1, 1);
        Checks.dueDuty(x, 0, 29, 60, 2, 1);
    }

    private static void refusedToldChangesNothing() {
        Checks.sentence("6: False, refused");
        DutyRules x = withLitre(10);
        dueTold(x, 0, 2, 20, true);
        dueTold(x, 0, 3, 0, false);
        dueTold(x, 1, 2, 0, false);
        dueTold(x, 0, 2, -1, false);
        Checks.dueOpen(x, 0, 10, 19, 2);
        Checks.dueDuty(x, 0, 10, 20, 1, 1);
    }
}
