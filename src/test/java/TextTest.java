/** Promises 2 (unit), 3 (read) and 14 (write). */
public final class TextTest {
    private static final String ALL =
            "rate 1 from 0 to 1200 pay 2450;\nsmall 2 below 500 times 50;\nloss 3 upto 3;\n"
            + "away 4 times 90;\nround 5;\nlate 2;\n";

    public static void main(String[] args) {
        units();
        fullText();
        goodTexts();
        wordsOfTexts();
        wrongWords();
        wrongRanges();
        manyRules();
        wrongTextLeavesWhatWasRead();
        writing();
        Checks.end();
    }

    private static void units() {
        DutyRules x = new DutyRules();
        int[] refused = {0, -1, 128, 255, 1000, Integer.MIN_VALUE, Integer.MAX_VALUE, 'l' + 256};
        for (int u : refused) {
            Checks.due("unit(" + u + ")", x.unit(u), false);
        }
        Checks.due("read after refused units", x.read(), 0);
        Checks.due("unit(1)", x.unit(1), true);
        Checks.due("unit(127)", x.unit(127), true);
        Checks.due("read of a strange word", x.read(), -1);
        Checks.tell(x, "late 5");
        Checks.due("unit(0)", x.unit(0), false);
        Checks.due("read goes on behind a refused unit", Checks.readText(x, ";"), 1);
    }

    private static void fullText() {
        DutyRules x = new DutyRules();
        Checks.tell(x, "late 7;" + " ".repeat(1993));
        Checks.due("unit 2001", x.unit(' '), false);
        Checks.due("unit 2001", x.unit('x'), false);
        Checks.due("read of 2000 bytes", x.read(), 1);
        Checks.due("unit behind read", x.unit(' '), true);
    }

    private static void dueRead(String text, int want) {
        Checks.due("read of " + text, Checks.readText(new DutyRules(), text), want);
    }

    private static void goodTexts() {
        dueRead("", 0);
        dueRead(" \n\n  ", 0);
        dueRead(ALL, 6);
        dueRead("rate 0 from 0 to 1 pay 0;rate 9 from 9999 to 10000 pay 1000000;", 2);
        dueRead("small 0 below 0 times 0;small 9 below 100000000 times 100;", 2);
        dueRead("loss 0 upto 0;loss 9 upto 100;", 2);
        dueRead("away 0 times 0;away 9 times 100;", 2);
        dueRead("round 1;", 1);
        dueRead("round 1000;", 1);
        dueRead("late 0;", 1);
        dueRead("late 100;", 1);
        dueRead("late 1;round 1;", 2);
    }

    private static void wordsOfTexts() {
        dueRead("\n late\n\n5 \n ; \n", 1);
        dueRead("late 5;late", -4);
        dueRead("late\t5;", -1);
        dueRead("late 5\r;", -2);
        dueRead("late5;", -1);
        dueRead("la te 5;", -1);
        dueRead("late;5", -2);
        dueRead("late 5;;", -4);
        dueRead(";", -1);
    }

    private static void wrongWords() {
        dueRead("rat 1 from 0 to 1 pay 1;", -1);
        dueRead("Rate 1 from 0 to 1 pay 1;", -1);
        dueRead("rates 1 from 0 to 1 pay 1;", -1);
        dueRead("5", -1);
        dueRead("rate G from 0 to 1 pay 1;", -2);
        dueRead("rate 1 to 0 to 1 pay 1;", -3);
        dueRead("rate 1 from x to 1 pay 1;", -4);
        dueRead("rate 1 from 0 from 1 pay 1;", -5);
        dueRead("rate 1 from 0 to ; pay 1;", -6);
        dueRead("rate 1 from 0 to 1 times 1;", -7);
        dueRead("rate 1 from 0 to 1 pay pay;", -8);
        dueRead("rate 1 from 0 to 1 pay 1 1;", -9);
        String[] words = {"rate ", "1 ", "from ", "0 ", "to ", "1 ", "pay ", "1 "};
        StringBuilder begun = new StringBuilder();
        for (int i = 0; i < words.length; i++) {
            begun.append(words[i]);
            dueRead(begun.toString(), -2 - i);
        }
        dueRead("small 1 upto 5 times 5;", -3);
        dueRead("small 1 below 5 upto 5;", -5);
        dueRead("loss 1 times 5;", -3);
        dueRead("away 1 upto 5;", -3);
        dueRead("round ;", -2);
        dueRead("late", -2);
        dueRead("round 1;late 5;round 2;", -7);
        dueRead("late 1;round 5;late 1;", -7);
    }

    private static void wrongRanges() {
        dueRead("rate 10 from 0 to 1 pay 1;", -2);
        dueRead("rate 1 from 10001 to 10002 pay 1;", -4);
        dueRead("rate 1 from 10000 to 10000 pay 1;", -6);
        dueRead("rate 1 from 5 to 10001 pay 1;", -6);
        dueRead("rate 1 from 5 to 5 pay 1;", -6);
        dueRead("rate 1 from 5 to 4 pay 1;", -6);
        dueRead("rate 1 from 5 to 6 pay 1000001;", -8);
        dueRead("small 10 below 1 times 1;", -2);
        dueRead("small 1 below 100000001 times 1;", -4);
        dueRead("small 1 below 1 times 101;", -6);
        dueRead("loss 10 upto 1;", -2);
        dueRead("loss 1 upto 101;", -4);
        dueRead("away 10 times 1;", -2);
        dueRead("away 1 times 101;", -4);
        dueRead("round 0;", -2);
        dueRead("round 1001;", -2);
        dueRead("late 101;", -2);
        dueRead("late 00;", -2);
        dueRead("late 05;", -2);
        dueRead("late -1;", -2);
        dueRead("late +1;", -2);
        dueRead("late 1.0;", -2);
        dueRead("late 1/;", -2);
        dueRead("late 1:;", -2);
        dueRead("late 4294967297;", -2);
        dueRead("late 18446744073709551617;", -2);
        dueRead("late 9".concat("9".repeat(300)).concat(";"), -2);
    }

    private static void manyRules() {
        dueRead("loss 1 upto 5;".repeat(40), 40);
        dueRead("loss 1 upto 5;".repeat(40).concat(" \n"), 40);
        dueRead("loss 1 upto 5;".repeat(41), -201);
        dueRead("loss 1 upto 5;".repeat(40).concat("x"), -201);
        dueRead("loss 1 upto 5;".repeat(39).concat("late 1;"), 40);
    }

    private static void wrongTextLeavesWhatWasRead() {
        DutyRules x = new DutyRules();
        Checks.due("read", Checks.readText(x, "late 5;"), 1);
        Checks.due("wrong read", Checks.readText(x, "round 5;late 101;"), -5);
        Checks.due("what was read before", Checks.writtenText(x), "late 5;\n");
        Checks.due("the text is empty behind a wrong word", x.read(), 0);
        Checks.due("no rules were read last", Checks.writtenText(x), "");
    }

    private static void writing() {
        DutyRules x = new DutyRules();
        Checks.readText(x, ALL.replace(";\n", ";"));
        Checks.due("all kinds", Checks.writtenText(x), ALL);
        Checks.readText(x, ALL.replace(" ", "\n  ").replace(";", " ; "));
        Checks.due("all kinds, with many blanks", Checks.writtenText(x), ALL);
        Checks.due("write(-1)", x.write(-1), DutyRules.NONE);
        Checks.due("behind the last byte", x.write(ALL.length()), DutyRules.NONE);
        Checks.due("write of the least int", x.write(Integer.MIN_VALUE), DutyRules.NONE);
        Checks.due("write of the greatest int", x.write(Integer.MAX_VALUE), DutyRules.NONE);
        Checks.tell(x, "late 9;");
        Checks.due("a text not read yet is not written", Checks.writtenText(x), ALL);
        x.edition(5);
        Checks.due("an edition changes nothing", Checks.writtenText(x), ALL);
        x.read();
        Checks.due("what was read last", Checks.writtenText(x), "late 9;\n");
        String edges = "rate 9 from 0 to 10000 pay 1000000;\nsmall 0 below 100000000 times 100;\n";
        Checks.readText(x, edges);
        Checks.due("edges", Checks.writtenText(x), edges);
    }
}
