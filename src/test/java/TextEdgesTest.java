import java.util.ArrayList;
import java.util.List;

/** The boundary cases of texts: a test for each sentence of Terms and of promises 1, 2, 3 and 14. */
public final class TextEdgesTest {
    /** G, S, P, L, H, N stand for numbers. */
    private static final String[] FORMS = {"rate G from S to S pay P ;", "small G below L times H ;",
        "loss G upto H ;", "away G times H ;", "round N ;", "late H ;"};

    /** A rule of each form, in its words. */
    private static final String[] RULES = {"rate 1 from 5 to 6 pay 7 ;", "small 1 below 5 times 6 ;",
        "loss 1 upto 5 ;", "away 1 times 5 ;", "round 5 ;", "late 5 ;"};

    public static void main(String[] args) {
        noText();
        noRulesRead();
        bytesThatAreTaken();
        bytesThatAreRefused();
        twoThousandBytes();
        numbers();
        bytesOfWords();
        semicolons();
        emptyTexts();
        greatestNumbers();
        leastNumbers();
        hugeNumbers();
        noTextGoesOn();
        wordsOfOtherPlaces();
        theEnd();
        secondStrength();
        fortyFirstRule();
        secondRound();
        secondLate();
        firstWrongWord();
        textIsEmptyThen();
        whatWasReadBeforeStays();
        writtenBytes();
        writtenForm();
        Checks.end();
    }

    private static void dueRead(String text, int want) {
        Checks.due("read of " + shown(text), Checks.readText(new DutyRules(), text), want);
    }

    private static String shown(String text) {
        return text.length() < 100 ? text : text.substring(0, 40) + " .. " + text.substring(text.length() - 40);
    }

    private static String wordsWith(String rule, int place, String word) {
        String[] words = rule.split(" ");
        words[place] = word;
        return String.join(" ", words);
    }

    private static void noText() {
        Checks.sentence("1: No text");
        Checks.due("read", new DutyRules().read(), 0);
        dueRead("late 5;", 1);
    }

    private static void noRulesRead() {
        Checks.sentence("1: no rules read");
        DutyRules x = new DutyRules();
        Checks.due("write(0)", x.write(0), DutyRules.NONE);
        Checks.due("edition", x.edition(0), 0);
        Checks.tellFacts(x, 0, 0, 0, 0, 0, 0, 0, 0);
        Checks.dueOpen(x, 0, 0, 0, 21);
    }

    private static void bytesThatAreTaken() {
        Checks.sentence("2: A byte (1 .. 127) comes behind the text: true.");
        DutyRules x = new DutyRules();
        for (int u = 1; u <= 127; u++) {
            Checks.due("unit(" + u + ")", x.unit(u), true);
        }
        Checks.due("read of all bytes", x.read(), -1);
        for (int u = 1; u <= 127; u++) {
            DutyRules y = new DutyRules();
            Checks.tell(y, "late ");
            Checks.due("unit(" + u + ")", y.unit(u), true);
            boolean digit = u >= '0' && u <= '9';
            boolean blank = u == ' ' || u == '\n';
            Checks.due("late and byte " + u, Checks.readText(y, " 5;"), blank ? 1 : digit ? -3 : -2);
        }
    }

    private static void bytesThatAreRefused() {
        Checks.sentence("2: False, refused, for another one");
        int[] edges = {0, -1, 128, 129, 255, 'l' + 256, 'l' - 256, '5' + 65536, 65536 + 32};
        for (int u : edges) {
            dueRefusedUnit(u);
        }
        for (int u : Checks.EXTREME) {
            dueRefusedUnit(u);
        }
    }

    private static void dueRefusedUnit(int u) {
        DutyRules x = new DutyRules();
        Checks.tell(x, "late ");
        Checks.due("unit(" + u + ")", x.unit(u), false);
        Checks.due("text around unit(" + u + ")", Checks.readText(x, "5;"), 1);
    }

    private static void twoThousandBytes() {
        Checks.sentence("2: or when there are 2,000. (Terms: TEXTS are bytes, at most 2,000.)");
        DutyRules x = new DutyRules();
        Checks.tell(x, " ".repeat(1993) + "late 7");
        Checks.due("byte 2,000", x.unit(';'), true);
        Checks.due("byte 2,001", x.unit('x'), false);
        Checks.due("read of 2,000 bytes", x.read(), 1);
        Checks.tell(x, "\n".repeat(1994) + "late 7");
        Checks.due("byte 2,001", x.unit(';'), false);
        Checks.due("byte 2,001 again", x.unit(';'), false);
        Checks.due("read without it", x.read(), -3);
        Checks.tell(x, ";".repeat(2000));
        Checks.due("a byte that is none, when full", x.unit(0), false);
        Checks.due("read of 2,000 words", x.read(), -1);
        Checks.tell(x, "x".repeat(2000));
        Checks.due("byte 2,001 of one word", x.unit('x'), false);
        Checks.due("read of one long word", x.read(), -1);
        Checks.tell(x, "late " + "9".repeat(1994) + ";");
        Checks.due("read of a long number", x.read(), -2);
        Checks.due("a byte behind that", x.unit(' '), true);
    }

    private static void numbers() {
        Checks.sentence("Terms: NUMBERS in texts are digits, the first no 0 unless it is alone.");
        String[] none = {"00", "05", "01", "000", "0x", "5x", "x5", "+5", "-5", "-0", "5.", "5.0", "5,0", "0x5", "5e0",
            "5/", "/5", ":5", "5:", "1_0", "five", "\t5", "5\r", "\u007f", "\u0001"};
        for (int kind = 0; kind < FORMS.length; kind++) {
            String[] form = FORMS[kind].split(" ");
            for (int place = 1; place < form.length - 1; place++) {
                if (form[place].length() == 1) {
                    for (String word : none) {
                        dueRead(wordsWith(RULES[kind], place, word), -1 - place);
                    }
                }
            }
        }
        dueRead("late 0;", 1);
        dueRead("late 10;", 1);
        dueRead("late 100;", 1);
        dueRead("rate 0 from 0 to 1000 pay 0;", 1);
    }

    private static void bytesOfWords() {
        Checks.sentence("Terms: otherwise a word is a run of bytes that are none of ; 32 10.");
        for (int u = 1; u <= 127; u++) {
            boolean blank = u == 32 || u == 10;
            boolean digit = u >= '0' && u <= '9';
            dueRead("late" + (char) u + "5;", blank ? 1 : u == ';' ? -2 : -1);
            dueRead("late 5" + (char) u + ";", blank || digit ? 1 : u == ';' ? -4 : -2);
            dueRead("late 5;" + (char) u, blank ? 1 : -4);
            dueRead((char) u + "late 5;", blank ? 1 : -1);
        }
        dueRead("  \n late \n\n 5 \n  ; \n ", 1);
    }

    private static void semicolons() {
        Checks.sentence("Terms: WORDS: ; is a word");
        dueRead("late 5;", 1);
        dueRead("late 5 ;", 1);
        dueRead("late 5;round 5;", 2);
        dueRead("late 5;round;", -5);
        dueRead("late 5;;", -4);
        dueRead("late 5; ;", -4);
        dueRead(";;;", -1);
        dueRead("late;;", -2);
    }

    private static void emptyTexts() {
        Checks.sentence("Terms: text: rule*.");
        dueRead("", 0);
        dueRead(" ", 0);
        dueRead("\n", 0);
        dueRead(" \n \n", 0);
        for (String rule : RULES) {
            dueRead(rule, 1);
        }
        dueRead(String.join("", RULES), 6);
    }

    private static long greatestOf(char letter) {
        switch (letter) {
            case 'G': return 9;
            case 'S': return 10000;
            case 'P': return 1000000;
            case 'L': return 100000000;
            case 'H': return 100;
            default: return 1000;
        }
    }

    /** The places of the numbers in a form, but for the first strength, which has tests of its own. */
    private static List<Integer> numberPlaces(String form) {
        List<Integer> places = new ArrayList<>();
        String[] words = form.split(" ");
        for (int place = 0; place < words.length; place++) {
            if (words[place].matches("[A-Z]") && !(words[0].equals("rate") && place == 3)) {
                places.add(place);
            }
        }
        return places;
    }

    private static void greatestNumbers() {
        Checks.sentence("Terms: with G 0 .. 9, S 0 .. 10000, P 0 .. 1000000, L 0 .. 100000000, H 0 .. 100, N 1 .. 1000;"
                + " A WORD IS WRONG when it is a number out of its range (too large)");
        for (int kind = 0; kind < FORMS.length; kind++) {
            for (int place : numberPlaces(FORMS[kind])) {
                long greatest = greatestOf(FORMS[kind].split(" ")[place].charAt(0));
                dueRead(wordsWith(RULES[kind], place, "" + greatest), 1);
                dueRead(wordsWith(RULES[kind], place, "" + (greatest + 1)), -1 - place);
                dueRead(wordsWith(RULES[kind], place, greatest + "0"), -1 - place);
            }
        }
        dueRead("rate 1 from 9999 to 10000 pay 7;", 1);
        dueRead("rate 1 from 10001 to 10002 pay 7;", -4);
        dueRead("rate 1 from 10000 to 10001 pay 7;", -6);
    }

    private static void leastNumbers() {
        Checks.sentence("Terms: G 0 .., S 0 .., P 0 .., L 0 .., H 0 .., N 1 ..; a number out of its range (too small)");
        for (int kind = 0; kind < FORMS.length; kind++) {
            for (int place : numberPlaces(FORMS[kind])) {
                boolean refused = kind == 4 || (kind == 0 && place == 5);
                dueRead(wordsWith(RULES[kind], place, "0"), refused ? -1 - place : 1);
            }
        }
        dueRead("rate 1 from 0 to 1 pay 7;", 1);
        dueRead("round 1;", 1);
        dueRead("round 0;", -2);
    }

    private static void hugeNumbers() {
        Checks.sentence("Terms: a number out of its range (wrapped around)");
        String[] huge = {"2147483647", "2147483648", "4294967296", "4294967297", "4294967301", "9223372036854775807",
            "18446744073709551617", "18446744073709551621", "340282366920938463463374607431768211461", "1000000000",
            "10000000000000000000000000000000000005"};
        for (int kind = 0; kind < FORMS.length; kind++) {
            for (int place : numberPlaces(FORMS[kind])) {
                for (String number : huge) {
                    dueRead(wordsWith(RULES[kind], place, number), -1 - place);
                }
            }
        }
        dueRead("rate 1 from 4294967296 to 6 pay 7;", -4);
    }

    private static void noTextGoesOn() {
        Checks.sentence("Terms: A WORD IS WRONG when no text goes on with it");
        String[] strange = {"x", "Rate", "LATE", "rates", "lat", "pa", "payy", "fro", "2x", "~", "late5"};
        for (String rule : RULES) {
            int words = rule.split(" ").length;
            for (int place = 0; place < words; place++) {
                for (String word : strange) {
                    dueRead(wordsWith(rule, place, word), -1 - place);
                    dueRead("loss 1 upto 5;" + wordsWith(rule, place, word), -6 - place);
                }
            }
            dueRead(rule + " 5", -1 - words);
            dueRead(rule + " ;", -1 - words);
            dueRead(rule + " x", -1 - words);
        }
    }

    private static void wordsOfOtherPlaces() {
        Checks.sentence("Terms: A WORD IS WRONG when no text goes on with it (a word of another place)");
        String[] known = {"rate", "from", "to", "pay", "small", "below", "times", "loss", "upto", "away", "round",
            "late", "5", ";"};
        for (int kind = 0; kind < FORMS.length; kind++) {
            String[] form = FORMS[kind].split(" ");
            for (int place = 1; place < form.length; place++) {
                for (String word : known) {
                    boolean number = form[place].matches("[A-Z]");
                    if (number ? !word.equals("5") : !word.equals(form[place])) {
                        dueRead(wordsWith(RULES[kind], place, word), -1 - place);
                    }
                }
            }
        }
        String[] noFirst = {"from", "to", "pay", "below", "times", "upto", "5", ";"};
        for (String word : noFirst) {
            dueRead(word + " 1 from 5 to 6 pay 7;", -1);
            dueRead("late 5;" + word, -4);
        }
    }

    private static void theEnd() {
        Checks.sentence("Terms: A WORD IS WRONG when no text goes on with it (the end, too)");
        for (String rule : RULES) {
            String[] words = rule.split(" ");
            StringBuilder begun = new StringBuilder();
            for (int i = 0; i < words.length - 1; i++) {
                begun.append(words[i]);
                dueRead(begun.toString(), -2 - i);
                dueRead("loss 1 upto 5;" + begun, -7 - i);
                begun.append(' ');
                dueRead(begun.toString(), -2 - i);
                dueRead(begun + "\n", -2 - i);
            }
        }
    }

    private static void secondStrength() {
        Checks.sentence("Terms: the second S of a rate that is not above the first");
        dueRead("rate 1 from 5 to 4 pay 7;", -6);
        dueRead("rate 1 from 5 to 5 pay 7;", -6);
        dueRead("rate 1 from 5 to 6 pay 7;", 1);
        dueRead("rate 1 from 0 to 0 pay 7;", -6);
        dueRead("rate 1 from 0 to 1 pay 7;", 1);
        dueRead("rate 1 from 10000 to 10000 pay 7;", -6);
        dueRead("rate 1 from 10000 to 0 pay 7;", -6);
        dueRead("rate 1 from 9999 to 10000 pay 7;", 1);
        dueRead("rate 1 from 10 to 9 pay 7;", -6);
        dueRead("rate 1 from 9 to 10 pay 7;", 1);
        dueRead("rate 1 from 5 to 5 x", -6);
        dueRead("rate 1 from 50 to 60 pay 7;rate 1 from 5 to 6 pay 7;", 2);
        dueRead("rate 1 from 5 to 6 pay 7;rate 1 from 6 to 6 pay 7;", -15);
        dueRead("small 5 below 5 times 5;", 1);
        dueRead("small 5 below 0 times 0;", 1);
    }

    private static void fortyFirstRule() {
        Checks.sentence("Terms: the first word of a rule that would be the 41st");
        String forty = "loss 1 upto 5;".repeat(40);
        dueRead(forty, 40);
        dueRead(forty + " \n ", 40);
        for (String rule : RULES) {
            dueRead(forty + rule, -201);
            dueRead("loss 1 upto 5;".repeat(39) + rule, 40);
        }
        dueRead(forty + "rate x", -201);
        dueRead(forty + "loss", -201);
        dueRead("round 5;late 5;" + "away 1 times 5;".repeat(38) + "small 1 below 5 times 6;", -197);
        dueRead("rate 1 from 5 to 6 pay 7;".repeat(40) + "rate", -361);
        DutyRules x = new DutyRules();
        Checks.due("forty", Checks.readText(x, forty), 40);
        Checks.due("forty again", Checks.readText(x, forty), 40);
    }

    private static void secondRound() {
        Checks.sentence("Terms: or the first word of a second round");
        dueRead("round 5;round 5;", -4);
        dueRead("round 5;round", -4);
        dueRead("round 5;round x", -4);
        dueRead("round 5;late 5;loss 1 upto 5;round 6;", -12);
        dueRead("round 5;late 5;", 2);
        DutyRules x = new DutyRules();
        Checks.due("a round", Checks.readText(x, "round 5;"), 1);
        Checks.due("the round of another text", Checks.readText(x, "round 6;"), 1);
        Checks.due("two rounds", Checks.readText(x, "round 6;round 7;"), -4);
        Checks.due("behind a wrong text", Checks.readText(x, "round 8;"), 1);
    }

    private static void secondLate() {
        Checks.sentence("Terms: or the first word of a second late");
        dueRead("late 5;late 5;", -4);
        dueRead("late 5;late", -4);
        dueRead("late 5;late x", -4);
        dueRead("late 5;round 5;loss 1 upto 5;late 6;", -12);
        dueRead("late 5;round 5;", 2);
        DutyRules x = new DutyRules();
        Checks.due("a late", Checks.readText(x, "late 5;"), 1);
        Checks.due("the late of another text", Checks.readText(x, "late 6;"), 1);
        Checks.due("two lates", Checks.readText(x, "late 6;late 7;"), -4);
        Checks.due("behind a wrong text", Checks.readText(x, "late 8;"), 1);
    }

    private static void firstWrongWord() {
        Checks.sentence("3: When a word is wrong: -1 minus its number, from 0");
        dueRead("x", -1);
        dueRead("late x", -2);
        dueRead("late 5 x", -3);
        dueRead("late 5;x", -4);
        dueRead("late x x x", -2);
        dueRead("rate 10 from 10001 to 0 pay x", -2);
        dueRead("loss 1 upto 5;".repeat(20) + "loss 1 upto 101;x", -104);
        dueRead("; ".repeat(1000), -1);
    }

    private static void textIsEmptyThen() {
        Checks.sentence("3: The text is read, and is empty then");
        DutyRules x = new DutyRules();
        Checks.due("read", Checks.readText(x, "late 5;"), 1);
        Checks.due("read again", x.read(), 0);
        Checks.due("wrong read", Checks.readText(x, "late x;"), -2);
        Checks.due("read again", x.read(), 0);
        Checks.due("an end that is wrong", Checks.readText(x, "late"), -2);
        Checks.due("its text does not go on", Checks.readText(x, " 5;"), -1);
        Checks.due("nor that", Checks.readText(x, "late 5;"), 1);
    }

    private static void whatWasReadBeforeStays() {
        Checks.sentence("3: what was read before stays.");
        DutyRules x = new DutyRules();
        Checks.due("wrong word", Checks.readText(x, "late 5;x"), -4);
        Checks.due("nothing was read before", Checks.writtenText(x), "");
        Checks.readText(x, "round 7;rate 1 from 0 to 10000 pay 1000;");
        String before = "round 7;\nrate 1 from 0 to 10000 pay 1000;\n";
        String[] wrong = {"x", "late 5;x", "round 8;round 9;", "rate 1 from 0 to 10000 pay 9;loss 1 upto 101;", "late"};
        for (String text : wrong) {
            Checks.due("wrong text", Checks.readText(x, text) < 0, true);
            Checks.due("behind " + text, Checks.writtenText(x), before);
        }
        x.edition(0);
        Checks.tellFacts(x, 0, 0, 1, 0, 1000);
        Checks.dueDuty(x, 0, 0, 0, 7, 1);
        Checks.due("rule of A", x.step(0, 0, 1), 1);
    }

    private static void writtenBytes() {
        Checks.sentence("14: Byte i of the rules that were read last .. NONE.");
        DutyRules x = new DutyRules();
        Checks.readText(x, "late 5;");
        Checks.due("write(0)", x.write(0), 'l');
        Checks.due("the last byte", x.write(7), '\n');
        Checks.due("behind the last byte", x.write(8), DutyRules.NONE);
        Checks.due("before the first byte", x.write(-1), DutyRules.NONE);
        for (int i : Checks.EXTREME) {
            Checks.due("write(" + i + ")", x.write(i), DutyRules.NONE);
        }
        Checks.due("read of no text", x.read(), 0);
        Checks.due("no rules", x.write(0), DutyRules.NONE);
        Checks.due("no rules, before", x.write(-1), DutyRules.NONE);
        String longest = "rate 9 from 1000 to 10000 pay 1000000;\n".repeat(40);
        Checks.due("40 rules", Checks.readText(x, longest), 40);
        Checks.due("40 rules", Checks.writtenText(x), longest);
        Checks.due("behind 40 rules", x.write(longest.length()), DutyRules.NONE);
        String least = "small 0 below 0 times 0;\n".repeat(40);
        Checks.due("40 rules", Checks.readText(x, least), 40);
        Checks.due("40 rules that are shorter", Checks.writtenText(x), least);
    }

    private static void writtenForm() {
        Checks.sentence("14: each rule in a line, its words with a blank between, but none before ; then a line feed.");
        for (String rule : RULES) {
            DutyRules x = new DutyRules();
            Checks.readText(x, "\n " + rule.replace(" ", "\n\n  ") + "\n");
            Checks.due("written", Checks.writtenText(x), rule.replace(" ;", ";") + "\n");
            Checks.due("what was written is read", Checks.readText(x, Checks.writtenText(x)), 1);
            Checks.due("written again", Checks.writtenText(x), rule.replace(" ;", ";") + "\n");
        }
        DutyRules x = new DutyRules();
        Checks.readText(x, "late 0;round 1000;loss 0 upto 100;");
        Checks.due("numbers as they were", Checks.writtenText(x), "late 0;\nround 1000;\nloss 0 upto 100;\n");
    }
}
