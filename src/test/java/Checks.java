/** What the tests share: counting wrong answers, and telling texts byte by byte. */
final class Checks {
    static final long LEAST = Long.MIN_VALUE;

    /** The wrap-around neighbours of small numbers: casts to int would make 0, 1, -1 of them. */
    static final long[] WRAPPING = {1L << 32, (1L << 32) + 1, -(1L << 32), Long.MIN_VALUE, Long.MIN_VALUE + 1,
        Long.MAX_VALUE, Long.MAX_VALUE - 1, Integer.MIN_VALUE, Integer.MAX_VALUE, 1L << 31};

    static final int[] EXTREME = {Integer.MIN_VALUE, Integer.MIN_VALUE + 1, Integer.MAX_VALUE, Integer.MAX_VALUE - 1,
        1 << 30, -(1 << 30), 1 << 16, -(1 << 16)};

    private static int wrong = 0;
    private static String sentence = "";

    private Checks() {
    }

    /** The document's sentence that the next answers are due by; a wrong answer tells it. */
    static void sentence(String words) {
        sentence = "[" + words + "] ";
    }

    static void due(String what, long got, long want) {
        if (got != want) {
            wrong++;
            System.out.println(sentence + what + " answered " + got + ", due is " + want);
        }
    }

    static void due(String what, boolean got, boolean want) {
        due(what, got ? 1 : 0, want ? 1 : 0);
    }

    static void due(String what, String got, String want) {
        if (!got.equals(want)) {
            wrong++;
            System.out.println(sentence + what + " answered [" + got + "], due is [" + want + "]");
        }
    }

    static void tell(DutyRules rules, String text) {
        for (int i = 0; i < text.length(); i++) {
            due("unit " + (int) text.charAt(i), rules.unit(text.charAt(i)), true);
        }
    }

    static int readText(DutyRules rules, String text) {
        tell(rules, text);
        return rules.read();
    }

    static String writtenText(DutyRules rules) {
        StringBuilder bytes = new StringBuilder();
        for (int i = 0; i < 100000 && rules.write(i) != DutyRules.NONE; i++) {
            bytes.append((char) rules.write(i));
        }
        return bytes.toString();
    }

    /** A new object with one edition of the text from a day on. */
    static DutyRules withEdition(String text, long from) {
        DutyRules rules = new DutyRules();
        if (readText(rules, text) < 0) {
            due("reading " + text, false, true);
        }
        due("edition", rules.edition(from), 0);
        return rules;
    }

    static void tellFacts(DutyRules rules, int lot, long day, int... values) {
        for (int kind = 0; kind < values.length; kind++) {
            if (values[kind] >= 0) {
                due("fact", rules.fact(lot, kind, day, values[kind], 1), true);
            }
        }
    }

    static void dueDuty(DutyRules rules, int lot, long day, long on, long above, long below) {
        String call = "duty(" + lot + ", " + day + ", " + on + ")";
        due(call + " above", rules.duty(lot, day, on, 0), above);
        due(call + " below", rules.duty(lot, day, on, 1), below);
    }

    static void dueOpen(DutyRules rules, int lot, long day, long on, int reason) {
        dueDuty(rules, lot, day, on, LEAST, LEAST);
        due("open(0)", rules.open(0), lot);
        due("open(1)", rules.open(1), reason);
        due("open(2)", rules.open(2), 0);
        due("step of an open duty", rules.step(lot, 0, 0), DutyRules.NONE);
    }

    static void dueStep(DutyRules rules, int lot, int k, int letter, int rule, int cents) {
        due("letter of step " + k, rules.step(lot, k, 0), letter);
        due("rule of step " + k, rules.step(lot, k, 1), rule);
        due("cents of step " + k, rules.step(lot, k, 2), cents);
    }

    static void dueRow(DutyRules rules, int k, long lot, long cents, long change) {
        due("lot of row " + k, rules.row(k, 0), lot);
        due("cents of row " + k, rules.row(k, 1), cents);
        due("change of row " + k, rules.row(k, 2), change);
    }

    static void dueInterest(DutyRules rules, int month, long day, long above, long below) {
        String call = "interest(" + month + ", " + day + ")";
        due(call + " above", rules.interest(month, day, 0), above);
        due(call + " below", rules.interest(month, day, 1), below);
    }

    static void dueAllowed(DutyRules rules, int month, long above, long below) {
        due("allowed(" + month + ") above", rules.allowed(month, 0), above);
        due("allowed(" + month + ") below", rules.allowed(month, 1), below);
    }

    static void end() {
        System.out.println(wrong == 0 ? "all answers are as due" : wrong + " answers are not as due");
        if (wrong != 0) {
            System.exit(1);
        }
    }
}
