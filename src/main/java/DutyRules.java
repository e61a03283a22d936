/**
 * Duty by rules that are told as texts, in editions from days on, on facts of lots that come to be
 * known later, with returns by months. ../shared/DOC.md tells what each call promises.
 */
public final class DutyRules {
    public static final int NONE = -1;
    public static final int FULL = -2;

    private static final long LEAST_LONG = -9223372036854775808L;
    private static final long GREATEST_INT = 2147483647L;

    private static final int MOST_BYTES = 2000;
    private static final int MOST_RULES = 40;
    private static final int MOST_EDITIONS = 10;
    private static final int MOST_FACTS = 300;

    private static final int LOTS = 30;
    private static final int LAST_DAY = 100000;
    private static final int LAST_MONTH = 3000;
    private static final int DAYS_OF_MONTH = 30;

    private static final int GOODS = 0;
    private static final int STRENGTH = 1;
    private static final int LITRES = 2;
    private static final int YEAR = 3;
    private static final int LOST = 4;
    private static final int AWAY_LITRES = 5;
    private static final int FACT_KINDS = 6;

    private static final int RATE = 0;
    private static final int SMALL = 1;
    private static final int LOSS = 2;
    private static final int AWAY = 3;
    private static final int ROUND = 4;
    private static final int LATE = 5;
    private static final int RULE_KINDS = 6;

    private final StringBuilder text;
    private final Editions editions;
    private final Facts facts;
    private final Duty asked;
    /** Other calls reckon here, so that open() and step() go on telling of the last duty(). */
    private final Duty inner;
    private Rules lastRead;
    private String written;
    private boolean wasAsked;
    private Return newestReturn;
    private Return lastReturn;

    public DutyRules() {
        text = new StringBuilder();
        editions = new Editions();
        facts = new Facts();
        asked = new Duty();
        inner = new Duty();
        lastRead = new Rules();
        written = "";
        wasAsked = false;
        newestReturn = null;
        lastReturn = null;
    }

    public boolean unit(int u) {
        if (u < 1 || u > 127 || text.length() >= MOST_BYTES) {
            return false;
        }
        text.append((char) u);
        return true;
    }

    public int read() {
        Words words = new Words(text.toString());
        Rules rules = new Rules();
        text.setLength(0);
        if (!Grammar.fill(rules, words)) {
            return -1 - words.number;
        }
        lastRead = rules;
        written = Grammar.asText(rules);
        return rules.count;
    }

    public int edition(long from) {
        if (!isDay(from)) {
            return NONE;
        }
        return editions.add(lastRead, (int) from);
    }

    public boolean fact(int lot, int kind, long day, long above, long below) {
        if (!isLot(lot) || !isFactKind(kind) || !isDay(day)) {
            return false;
        }
        if (below < 1 || below > 100 || above % below != 0) {
            return false;
        }
        long value = above / below;
        if (value < 0 || value > greatestValue(kind)) {
            return false;
        }
        return facts.add(lot, kind, (int) day, (int) value);
    }

    public boolean told(int lot, int kind, long on) {
        if (!isLot(lot) || !isFactKind(kind) || !isDay(on)) {
            return false;
        }
        return facts.learnNewest(lot, kind, (int) on);
    }

    public long duty(int lot, long day, long on, int part) {
        if (!isLot(lot) || !isDay(day) || !isDay(on) || !isPart(part)) {
            return LEAST_LONG;
        }
        wasAsked = true;
        asked.reckon(editions, facts, lot, (int) day, (int) on);
        if (asked.reason != NONE) {
            return LEAST_LONG;
        }
        return reduced(asked.amount, Duty.CENT, part);
    }

    public int open(int what) {
        if (!wasAsked) {
            return NONE;
        }
        switch (what) {
            case 0: return asked.lot;
            case 1: return asked.reason;
            case 2: return asked.steps;
            default: return NONE;
        }
    }

    public int step(int lot, int k, int what) {
        if (!wasAsked || asked.lot != lot || k < 0 || k >= asked.steps) {
            return NONE;
        }
        switch (what) {
            case 0: return asked.letters[k];
            case 1: return asked.numbers[k];
            case 2: return (int) Math.min(asked.centsBehind[k], GREATEST_INT);
            default: return NONE;
        }
    }

    public long allowed(int month, int part) {
        if (!isMonth(month) || !isPart(part)) {
            return NONE;
        }
        int day = lastDayOf(month);
        long free = 0;
        for (int lot = 0; lot < LOTS; lot++) {
            inner.reckon(editions, facts, lot, day, day);
            free += inner.free;
        }
        return reduced(free, Duty.LITRE, part);
    }

    public int returned(int month) {
        if (!isMonth(month)) {
            return NONE;
        }
        Return place = returnOf(month);
        if (place == null) {
            place = new Return(month, newestReturn);
            newestReturn = place;
        }
        int firstDay = DAYS_OF_MONTH * month;
        int lastDay = lastDayOf(month);
        for (int lot = 0; lot < LOTS; lot++) {
            if (facts.hasLitres(lot, firstDay, lastDay)) {
                place.put(lot, centsOf(lot, lastDay, facts.lastKnowing));
            }
        }
        lastReturn = place;
        return place.count();
    }

    public long row(int k, int what) {
        if (lastReturn == null) {
            return NONE;
        }
        int lot = lastReturn.lotOfRow(k);
        if (lot == NONE) {
            return NONE;
        }
        switch (what) {
            case 0: return lot;
            case 1: return lastReturn.cents[lot];
            case 2: return lastReturn.changes[lot];
            default: return NONE;
        }
    }

    public long difference(int month, long on) {
        Return last = returnOf(month);
        if (last == null || !isDay(on)) {
            return 0;
        }
        long sum = 0;
        for (int lot = 0; lot < LOTS; lot++) {
            if (last.isSettled(lot)) {
                long now = centsOf(lot, lastDayOf(month), (int) on);
                sum += (now == LEAST_LONG ? 0 : now) - last.cents[lot];
            }
        }
        return sum;
    }

    public int write(int i) {
        return i >= 0 && i < written.length() ? written.charAt(i) : NONE;
    }

    public long interest(int month, long day, int part) {
        Return last = returnOf(month);
        if (last == null || !isDay(day) || !isPart(part)) {
            return LEAST_LONG;
        }
        int lastDay = lastDayOf(month);
        long days = Math.max(day - lastDay, 0);
        return reduced(last.settledSum() * lateShare(lastDay) * days, 100, part);
    }

    private static boolean isLot(int lot) {
        return lot >= 0 && lot < LOTS;
    }

    private static boolean isFactKind(int kind) {
        return kind >= 0 && kind < FACT_KINDS;
    }

    private static boolean isDay(long day) {
        return day >= 0 && day <= LAST_DAY;
    }

    private static boolean isMonth(int month) {
        return month >= 0 && month <= LAST_MONTH;
    }

    private static boolean isPart(int part) {
        return part == 0 || part == 1;
    }

    private static int lastDayOf(int month) {
        return DAYS_OF_MONTH * month + DAYS_OF_MONTH - 1;
    }

    private static int greatestValue(int kind) {
        switch (kind) {
            case GOODS: return 9;
            case STRENGTH: return 10000;
            case YEAR: return 100000000;
            default: return 1000000;
        }
    }

    /** Part 0 (above) or 1 (below) of above / below in its lowest terms; above is at least 0. */
    private static long reduced(long above, long below, int part) {
        long divisor = commonDivisor(above, below);
        if (divisor < 1) {
            return LEAST_LONG;
        }
        return (part == 0 ? above : below) / divisor;
    }

    private static long commonDivisor(long a, long b) {
        long greater = a;
        long less = b;
        // Euclid's steps on two longs are fewer than a hundred.
        for (int i = 0; i < 100 && less != 0; i++) {
            long rest = greater % less;
            greater = less;
            less = rest;
        }
        return greater;
    }

    /** The duty rounded down to cents, the least long when it is open. */
    private long centsOf(int lot, int day, int on) {
        inner.reckon(editions, facts, lot, day, on);
        return inner.reason == NONE ? inner.amount / Duty.CENT : LEAST_LONG;
    }

    private Return returnOf(int month) {
        for (Return r = newestReturn; r != null; r = r.before) {
            if (r.month == month) {
                return r;
            }
        }
        return null;
    }

    private long lateShare(int day) {
        Rules rules = editions.heldOn(day);
        if (rules == null) {
            return 0;
        }
        int late = rules.firstOfKind(LATE);
        return late == NONE ? 0 : rules.number(late, 0);
    }

    /** The words of a text, one after another; behind the last one stands an empty word, the end. */
    private static final class Words {
        private final String text;
        private int start;
        private int end;
        private int number;

        Words(String text) {
            this.text = text;
            start = 0;
            end = 0;
            number = -1;
            advance();
        }

        void advance() {
            int at = end;
            while (at < text.length() && isBlank(text.charAt(at))) {
                at++;
            }
            start = at;
            while (at < text.length() && !isBlank(text.charAt(at)) && text.charAt(at) != ';') {
                at++;
            }
            if (at == start && at < text.length()) {
                at++;
            }
            end = at;
            number++;
        }

        boolean isEnd() {
            return start == end;
        }

        boolean isSameWordAs(Words other) {
            int length = end - start;
            if (length != other.end - other.start) {
                return false;
            }
            for (int i = 0; i < length; i++) {
                if (text.charAt(start + i) != other.text.charAt(other.start + i)) {
                    return false;
                }
            }
            return true;
        }

        char firstByte() {
            return start < text.length() ? text.charAt(start) : ' ';
        }

        /** The word as a number, NONE when it is none or has more digits than any range allows. */
        int asNumber() {
            int length = end - start;
            if (length < 1 || length > 9 || (length > 1 && firstByte() == '0')) {
                return NONE;
            }
            int value = 0;
            for (int at = start; at < end; at++) {
                char digit = text.charAt(at);
                if (digit < '0' || digit > '9') {
                    return NONE;
                }
                value = value * 10 + (digit - '0');
            }
            return value;
        }

        private static boolean isBlank(char c) {
            return c == ' ' || c == '\n';
        }
    }

    /** The forms of the rules: a capital letter stands for a number, its range goes by the letter. */
    private static final class Grammar {
        private static final int LONGEST_FORM = 9;

        /** False when a word is wrong: then the words have stopped at it. */
        static boolean fill(Rules rules, Words words) {
            for (int i = 0; i <= MOST_RULES && !words.isEnd(); i++) {
                if (!addRule(rules, words)) {
                    return false;
                }
            }
            return true;
        }

        private static boolean addRule(Rules rules, Words words) {
            int kind = kindBegunBy(words);
            if (kind == NONE || !rules.mayBegin(kind)) {
                return false;
            }
            rules.begin(kind);
            Words form = new Words(formOf(kind));
            int slot = 0;
            for (int i = 0; i < LONGEST_FORM && !form.isEnd(); i++) {
                if (!isSlot(form.firstByte())) {
                    if (!words.isSameWordAs(form)) {
                        return false;
                    }
                } else {
                    int number = words.asNumber();
                    if (!isInRange(number, form.firstByte()) || !rules.put(slot, number)) {
                        return false;
                    }
                    slot++;
                }
                form.advance();
                words.advance();
            }
            return true;
        }

        private static int kindBegunBy(Words words) {
            for (int kind = 0; kind < RULE_KINDS; kind++) {
                if (words.isSameWordAs(new Words(formOf(kind)))) {
                    return kind;
                }
            }
            return NONE;
        }

        static String asText(Rules rules) {
            StringBuilder lines = new StringBuilder();
            for (int rule = 0; rule < rules.count; rule++) {
                String form = formOf(rules.kind(rule));
                int slot = 0;
                for (int i = 0; i < form.length(); i++) {
                    if (isSlot(form.charAt(i))) {
                        lines.append(rules.number(rule, slot));
                        slot++;
                    } else {
                        lines.append(form.charAt(i));
                    }
                }
                lines.append('\n');
            }
            return lines.toString();
        }

        private static String formOf(int kind) {
            switch (kind) {
                case RATE: return "rate G from S to S pay P;";
                case SMALL: return "small G below L times H;";
                case LOSS: return "loss G upto H;";
                case AWAY: return "away G times H;";
                case ROUND: return "round N;";
                default: return "late H;";
            }
        }

        private static boolean isSlot(char c) {
            return c >= 'A' && c <= 'Z';
        }

        private static boolean isInRange(int number, char letter) {
            switch (letter) {
                case 'G': return number >= 0 && number <= 9;
                case 'S': return number >= 0 && number <= 10000;
                case 'P': return number >= 0 && number <= 1000000;
                case 'L': return number >= 0 && number <= 100000000;
                case 'H': return number >= 0 && number <= 100;
                case 'N': return number >= 1 && number <= 1000;
                default: return false;
            }
        }
    }

    /** Rules in their order, with their numbers by slots; not changed once they have been read. */
    private static final class Rules {
        private static final int SLOTS = 4;
        private static final int FROM = 1;
        private static final int TO = 2;

        private int count;
        private final int[] kinds;
        private final int[] numbers;

        Rules() {
            count = 0;
            kinds = new int[MOST_RULES];
            numbers = new int[MOST_RULES * SLOTS];
        }

        boolean mayBegin(int kind) {
            if (count >= MOST_RULES) {
                return false;
            }
            return (kind != ROUND && kind != LATE) || firstOfKind(kind) == NONE;
        }

        void begin(int kind) {
            if (count < kinds.length) {
                kinds[count] = kind;
                count++;
            }
        }

        /** A number of the rule begun last; false when a rate's second strength is not above. */
        boolean put(int slot, int number) {
            int rule = count - 1;
            if (rule < 0 || slot < 0 || slot >= SLOTS) {
                return false;
            }
            if (kinds[rule] == RATE && slot == TO && number <= number(rule, FROM)) {
                return false;
            }
            numbers[rule * SLOTS + slot] = number;
            return true;
        }

        int kind(int rule) {
            return rule >= 0 && rule < count ? kinds[rule] : NONE;
        }

        int number(int rule, int slot) {
            if (rule < 0 || rule >= count || slot < 0 || slot >= SLOTS) {
                return NONE;
            }
            return numbers[rule * SLOTS + slot];
        }

        int firstOfKind(int kind) {
            for (int rule = 0; rule < count; rule++) {
                if (kinds[rule] == kind) {
                    return rule;
                }
            }
            return NONE;
        }

        /** Of a kind whose first number is the goods. */
        int firstOfGoods(int kind, int goods) {
            for (int rule = 0; rule < count; rule++) {
                if (kinds[rule] == kind && number(rule, 0) == goods) {
                    return rule;
                }
            }
            return NONE;
        }

        int firstRate(int goods, int strength) {
            for (int rule = 0; rule < count; rule++) {
                if (kinds[rule] == RATE && number(rule, 0) == goods
                        && number(rule, FROM) <= strength && strength < number(rule, TO)) {
                    return rule;
                }
            }
            return NONE;
        }
    }

    private static final class Editions {
        private int count;
        private final Rules[] rules;
        private final int[] froms;

        Editions() {
            count = 0;
            rules = new Rules[MOST_EDITIONS];
            froms = new int[MOST_EDITIONS];
        }

        int add(Rules read, int from) {
            if (count >= MOST_EDITIONS) {
                return FULL;
            }
            rules[count] = read;
            froms[count] = from;
            count++;
            return count - 1;
        }

        /** Null when there is none on that day. */
        Rules heldOn(int day) {
            Rules held = null;
            int from = 0;
            for (int i = 0; i < count; i++) {
                // Not below, rather than above: of one day the one told last holds.
                if (froms[i] <= day && froms[i] >= from) {
                    held = rules[i];
                    from = froms[i];
                }
            }
            return held;
        }
    }

    /** A fact, in a chain with those of its lot and kind that were told before it. */
    private static final class Fact {
        private final int day;
        private final int value;
        private final Fact before;
        private int knownFrom;

        Fact(int day, int value, Fact before) {
            this.day = day;
            this.value = value;
            this.before = before;
            knownFrom = day;
        }
    }

    private static final class Facts {
        private int count;
        private int lastKnowing;
        private final Fact[] newest;

        Facts() {
            count = 0;
            lastKnowing = 0;
            newest = new Fact[LOTS * FACT_KINDS];
        }

        boolean add(int lot, int kind, int day, int value) {
            int place = placeOf(lot, kind);
            if (place == NONE || count >= MOST_FACTS) {
                return false;
            }
            newest[place] = new Fact(day, value, newest[place]);
            count++;
            lastKnowing = Math.max(lastKnowing, day);
            return true;
        }

        boolean learnNewest(int lot, int kind, int on) {
            Fact fact = newestOf(lot, kind);
            if (fact == null) {
                return false;
            }
            fact.knownFrom = on;
            lastKnowing = Math.max(lastKnowing, on);
            return true;
        }

        /** The value that holds on a day as known on another one, NONE when there is none. */
        int heldValue(int lot, int kind, int day, int on) {
            Fact held = null;
            for (Fact f = newestOf(lot, kind); f != null; f = f.before) {
                // Above, as the chain goes backwards: of one day the fact told last is met first.
                if (f.day <= day && f.knownFrom <= on && (held == null || f.day > held.day)) {
                    held = f;
                }
            }
            return held == null ? NONE : held.value;
        }

        boolean hasLitres(int lot, int firstDay, int lastDay) {
            for (Fact f = newestOf(lot, LITRES); f != null; f = f.before) {
                if (f.day >= firstDay && f.day <= lastDay) {
                    return true;
                }
            }
            return false;
        }

        private Fact newestOf(int lot, int kind) {
            int place = placeOf(lot, kind);
            return place == NONE ? null : newest[place];
        }

        private static int placeOf(int lot, int kind) {
            return isLot(lot) && isFactKind(kind) ? lot * FACT_KINDS + kind : NONE;
        }
    }

    /** A duty and the steps that led to it; one object is used again for one duty after another. */
    private static final class Duty {
        /**
         * Litres are hundredths times shares in hundredths; cents are those litres times
         * thousandths, times two shares more. So all is whole, and 10^7 cents still fit a long.
         */
        static final long LITRE = 10000L;
        static final long CENT = 100000000000L;

        private static final int NO_EDITION = 20;
        private static final int NO_RATE = 21;
        private static final int MOST_STEPS = 5;

        private int lot;
        private int reason;
        private int steps;
        private long amount;
        private long free;
        private final int[] held;
        private final int[] letters;
        private final int[] numbers;
        private final long[] centsBehind;

        Duty() {
            lot = NONE;
            reason = NONE;
            steps = 0;
            amount = 0;
            free = 0;
            held = new int[FACT_KINDS];
            letters = new int[MOST_STEPS];
            numbers = new int[MOST_STEPS];
            centsBehind = new long[MOST_STEPS];
        }

        void reckon(Editions editions, Facts facts, int ofLot, int day, int on) {
            lot = ofLot;
            steps = 0;
            amount = 0;
            free = 0;
            Rules rules = editions.heldOn(day);
            if (rules == null) {
                reason = NO_EDITION;
                return;
            }
            for (int kind = 0; kind < FACT_KINDS; kind++) {
                held[kind] = facts.heldValue(ofLot, kind, day, on);
            }
            reason = reasonToBeOpen(rules);
            if (reason == NONE) {
                doSteps(rules);
            }
        }

        private int reasonToBeOpen(Rules rules) {
            for (int kind = GOODS; kind <= LITRES; kind++) {
                if (held[kind] == NONE) {
                    return kind;
                }
            }
            if (rules.firstRate(held[GOODS], held[STRENGTH]) == NONE) {
                return NO_RATE;
            }
            if (held[YEAR] == NONE && rules.firstOfGoods(SMALL, held[GOODS]) != NONE) {
                return YEAR;
            }
            return NONE;
        }

        private void doSteps(Rules rules) {
            int rate = rules.firstRate(held[GOODS], held[STRENGTH]);
            long pay = rules.number(rate, 3);
            amount = held[LITRES] * 100L * pay * 10000L;
            addStep(0, rate);
            freeLost(rules, pay);
            lessenByAway(rules, pay);
            lessenForSmall(rules);
            roundToMultiple(rules);
        }

        private void freeLost(Rules rules, long pay) {
            int rule = rules.firstOfGoods(LOSS, held[GOODS]);
            if (rule == NONE || held[LOST] == NONE) {
                return;
            }
            long most = (long) held[LITRES] * rules.number(rule, 1);
            free = Math.min(held[LOST] * 100L, most);
            amount -= free * pay * 10000L;
            addStep(1, rule);
        }

        private void lessenByAway(Rules rules, long pay) {
            int rule = rules.firstOfGoods(AWAY, held[GOODS]);
            if (rule == NONE || held[AWAY_LITRES] == NONE) {
                return;
            }
            long litres = Math.min(held[AWAY_LITRES] * 100L, held[LITRES] * 100L - free);
            amount -= litres * pay * rules.number(rule, 1) * 100L;
            addStep(2, rule);
        }

        private void lessenForSmall(Rules rules) {
            int rule = rules.firstOfGoods(SMALL, held[GOODS]);
            if (rule == NONE || held[YEAR] >= rules.number(rule, 1)) {
                return;
            }
            // Exact: the steps before have left a multiple of 100.
            amount = amount / 100 * rules.number(rule, 2);
            addStep(3, rule);
        }

        private void roundToMultiple(Rules rules) {
            int rule = rules.firstOfKind(ROUND);
            if (rule == NONE) {
                return;
            }
            long multiple = rules.number(rule, 0) * CENT;
            if (multiple < 1) {
                return;
            }
            amount = (2 * amount + multiple) / (2 * multiple) * multiple;
            addStep(4, rule);
        }

        private void addStep(int letter, int rule) {
            if (steps >= MOST_STEPS) {
                return;
            }
            letters[steps] = letter;
            numbers[steps] = rule;
            centsBehind[steps] = amount / CENT;
            steps++;
        }
    }

    /** The last return of a month, by lots, in a chain with the returns of other months. */
    private static final class Return {
        private final int month;
        private final Return before;
        private final boolean[] hasRow;
        private final long[] cents;
        private final long[] changes;

        Return(int month, Return before) {
            this.month = month;
            this.before = before;
            hasRow = new boolean[LOTS];
            cents = new long[LOTS];
            changes = new long[LOTS];
        }

        /** Takes the place of the lot's row in the return of the month before. */
        void put(int lot, long newCents) {
            if (!isLot(lot)) {
                return;
            }
            boolean comparable = isSettled(lot) && newCents != LEAST_LONG;
            changes[lot] = comparable ? newCents - cents[lot] : 0;
            cents[lot] = newCents;
            hasRow[lot] = true;
        }

        /** Whether the lot has a row that was not open. */
        boolean isSettled(int lot) {
            return isLot(lot) && hasRow[lot] && cents[lot] != LEAST_LONG;
        }

        int count() {
            int rows = 0;
            for (int lot = 0; lot < LOTS; lot++) {
                if (hasRow[lot]) {
                    rows++;
                }
            }
            return rows;
        }

        int lotOfRow(int k) {
            int rows = 0;
            for (int lot = 0; lot < LOTS; lot++) {
                if (hasRow[lot]) {
                    if (rows == k) {
                        return lot;
                    }
                    rows++;
                }
            }
            return NONE;
        }

        long settledSum() {
            long sum = 0;
            for (int lot = 0; lot < LOTS; lot++) {
                if (isSettled(lot)) {
                    sum += cents[lot];
                }
            }
            return sum;
        }
    }
}
