import java.math.BigInteger;
import java.util.ArrayList;
import java.util.Arrays;
import java.util.HashMap;
import java.util.List;
import java.util.Map;
import java.util.Random;
import java.util.TreeMap;

/** Runs of mixed calls, with each answer beside that of a second reading of the document. */
public final class ModelTest {
    private static final int RUNS = 3000;
    private static final int CALLS = 512;
    private static final int RUNS_WITH_EDGES = 12;

    private static final int[] INTS = {Integer.MIN_VALUE, -(1 << 16), -2, -1, 0, 1, 2, 3, 5, 6, 29, 30, 127, 128, 3000, 3001,
        143165577, Integer.MAX_VALUE};
    private static final long[] LONGS = {Long.MIN_VALUE, Long.MIN_VALUE + 1, -(1L << 32), Integer.MIN_VALUE, -1, 0, 1, 29,
        30, 99, 100, 101, 100000, 100001, 1L << 31, 1L << 32, (1L << 32) + 1, Long.MAX_VALUE};

    public static void main(String[] args) {
        for (int seed = 0; seed < RUNS; seed++) {
            new Run(seed).go();
        }
        new Run(0).askEdges();
        for (int seed = 0; seed < RUNS_WITH_EDGES; seed++) {
            edges(new Run(seed));
        }
        Checks.end();
    }

    /** Each call with all its edges together, behind a run and when it is full of facts. */
    private static void edges(Run run) {
        run.go();
        run.askEdges();
        run.tellEdges();
        run.askEdges();
    }

    /** A fraction, always in lowest terms, not below 0. */
    record Fraction(BigInteger above, BigInteger below) {
        static final Fraction ZERO = of(0, 1);

        static Fraction of(long above, long below) {
            return lowest(BigInteger.valueOf(above), BigInteger.valueOf(below));
        }

        static Fraction lowest(BigInteger above, BigInteger below) {
            BigInteger divisor = above.gcd(below);
            return new Fraction(above.divide(divisor), below.divide(divisor));
        }

        Fraction plus(Fraction o) {
            return lowest(above.multiply(o.below).add(o.above.multiply(below)), below.multiply(o.below));
        }

        Fraction minus(Fraction o) {
            return lowest(above.multiply(o.below).subtract(o.above.multiply(below)), below.multiply(o.below));
        }

        Fraction times(Fraction o) {
            return lowest(above.multiply(o.above), below.multiply(o.below));
        }

        Fraction min(Fraction o) {
            return above.multiply(o.below).compareTo(o.above.multiply(below)) <= 0 ? this : o;
        }

        long floor() {
            return above.divide(below).longValueExact();
        }

        long part(int part) {
            return (part == 0 ? above : below).longValueExact();
        }
    }

    record Told(int lot, int kind, long day, long value, long[] known) {
    }

    record Edition(long from, List<String[]> rules) {
    }

    record Step(int letter, int rule, Fraction behind) {
    }

    record Reckoned(int reason, Fraction cents, Fraction free, List<Step> steps) {
        long floor() {
            return reason >= 0 ? Checks.LEAST : cents.floor();
        }
    }

    /** The document once more, with lists, words as texts and fractions of any size. */
    static final class Model {
        final StringBuilder text = new StringBuilder();
        List<String[]> read = List.of();
        final List<Edition> editions = new ArrayList<>();
        final List<Told> facts = new ArrayList<>();
        long lastKnowing = 0;
        int lastLot = -1;
        Reckoned last = null;
        final Map<Integer, TreeMap<Integer, Long>> returns = new HashMap<>();
        final List<long[]> rows = new ArrayList<>();

        boolean unit(int u) {
            boolean ok = u >= 1 && u <= 127 && text.length() < 2000;
            if (ok) {
                text.append((char) u);
            }
            return ok;
        }

        static boolean number(String word, long least, long greatest) {
            if (!word.matches("0|[1-9][0-9]*")) {
                return false;
            }
            BigInteger n = new BigInteger(word);
            return n.compareTo(BigInteger.valueOf(least)) >= 0 && n.compareTo(BigInteger.valueOf(greatest)) <= 0;
        }

        static String[] form(String first) {
            String[] forms = {"rate G from S to S pay P ;", "small G below L times H ;", "loss G upto H ;",
                "away G times H ;", "round N ;", "late H ;"};
            for (String form : forms) {
                if (form.startsWith(first + " ")) {
                    return form.split(" ");
                }
            }
            return null;
        }

        static boolean fits(String slot, String word) {
            switch (slot) {
                case "G": return number(word, 0, 9);
                case "S": return number(word, 0, 10000);
                case "P": return number(word, 0, 1000000);
                case "L": return number(word, 0, 100000000);
                case "H": return number(word, 0, 100);
                case "N": return number(word, 1, 1000);
                default: return slot.equals(word);
            }
        }

        int read() {
            List<String> words = new ArrayList<>();
            for (String word : text.toString().replace(";", " ; ").split("[ \n]+")) {
                if (!word.isEmpty()) {
                    words.add(word);
                }
            }
            text.setLength(0);
            List<String[]> rules = new ArrayList<>();
            int at = 0;
            while (at < words.size()) {
                String[] form = form(words.get(at));
                if (form == null || rules.size() == 40) {
                    return -1 - at;
                }
                boolean once = form[0].equals("round") || form[0].equals("late");
                if (once && rules.stream().anyMatch(r -> r[0].equals(form[0]))) {
                    return -1 - at;
                }
                String[] rule = new String[form.length];
                for (int i = 0; i < form.length; i++, at++) {
                    if (at == words.size() || !fits(form[i], words.get(at))) {
                        return -1 - at;
                    }
                    rule[i] = words.get(at);
                    if (form[0].equals("rate") && i == 5 && Integer.parseInt(rule[5]) <= Integer.parseInt(rule[3])) {
                        return -1 - at;
                    }
                }
                rules.add(rule);
            }
            read = rules;
            return rules.size();
        }

        int write(int i) {
            StringBuilder lines = new StringBuilder();
            for (String[] rule : read) {
                lines.append(String.join(" ", rule).replace(" ;", ";")).append('\n');
            }
            return i < 0 || i >= lines.length() ? -1 : lines.charAt(i);
        }

        static boolean day(long day) {
            return day >= 0 && day <= 100000;
        }

        int edition(long from) {
            if (!day(from)) {
                return -1;
            }
            if (editions.size() == 10) {
                return -2;
            }
            editions.add(new Edition(from, read));
            return editions.size() - 1;
        }

        boolean fact(int lot, int kind, long day, long above, long below) {
            if (lot < 0 || lot > 29 || kind < 0 || kind > 5 || !day(day) || below < 1 || below > 100) {
                return false;
            }
            long[] greatest = {9, 10000, 1000000, 100000000, 1000000, 1000000};
            if (above % below != 0 || above < 0 || above / below > greatest[kind] || facts.size() == 300) {
                return false;
            }
            facts.add(new Told(lot, kind, day, above / below, new long[] {day}));
            lastKnowing = Math.max(lastKnowing, day);
            return true;
        }

        boolean told(int lot, int kind, long on) {
            for (int i = facts.size() - 1; i >= 0 && day(on); i--) {
                if (facts.get(i).lot == lot && facts.get(i).kind == kind) {
                    facts.get(i).known[0] = on;
                    lastKnowing = Math.max(lastKnowing, on);
                    return true;
                }
            }
            return false;
        }

        Long held(int lot, int kind, long day, long on) {
            Told best = null;
            for (Told f : facts) {
                if (f.lot == lot && f.kind == kind && f.day <= day && f.known[0] <= on
                        && (best == null || f.day >= best.day)) {
                    best = f;
                }
            }
            return best == null ? null : best.value;
        }

        List<String[]> edited(long day) {
            Edition best = null;
            for (Edition e : editions) {
                if (e.from <= day && (best == null || e.from >= best.from)) {
                    best = e;
                }
            }
            return best == null ? null : best.rules;
        }

        static int find(List<String[]> rules, String kind, long goods) {
            for (int i = 0; i < rules.size(); i++) {
                if (rules.get(i)[0].equals(kind) && (goods < 0 || Long.parseLong(rules.get(i)[1]) == goods)) {
                    return i;
                }
            }
            return -1;
        }

        static Fraction share(List<String[]> rules, int rule, int word, long below) {
            return Fraction.of(Long.parseLong(rules.get(rule)[word]), below);
        }

        static Reckoned stayingOpen(int reason) {
            return new Reckoned(reason, null, Fraction.ZERO, List.of());
        }

        Reckoned reckon(int lot, long day, long on) {
            List<String[]> rules = edited(day);
            if (rules == null) {
                return stayingOpen(20);
            }
            Long[] held = new Long[6];
            for (int kind = 0; kind < 6; kind++) {
                held[kind] = held(lot, kind, day, on);
                if (kind < 3 && held[kind] == null) {
                    return stayingOpen(kind);
                }
            }
            int rate = -1;
            for (int i = rules.size() - 1; i >= 0; i--) {
                String[] r = rules.get(i);
                if (r[0].equals("rate") && Long.parseLong(r[1]) == held[0]
                        && Long.parseLong(r[3]) <= held[1] && held[1] < Long.parseLong(r[5])) {
                    rate = i;
                }
            }
            int small = find(rules, "small", held[0]);
            if (rate < 0 || (small >= 0 && held[3] == null)) {
                return stayingOpen(rate < 0 ? 21 : 3);
            }
            List<Step> steps = new ArrayList<>();
            Fraction litres = Fraction.of(held[2], 100);
            Fraction pay = share(rules, rate, 7, 1000);
            Fraction c = litres.times(pay);
            steps.add(new Step(0, rate, c));
            Fraction free = Fraction.ZERO;
            int loss = find(rules, "loss", held[0]);
            if (held[4] != null && loss >= 0) {
                free = Fraction.of(held[4], 100).min(litres.times(share(rules, loss, 3, 100)));
                c = c.minus(free.times(pay));
                steps.add(new Step(1, loss, c));
            }
            int away = find(rules, "away", held[0]);
            if (held[5] != null && away >= 0) {
                Fraction gone = Fraction.of(held[5], 100).min(litres.minus(free));
                c = c.minus(gone.times(pay).times(share(rules, away, 3, 100)));
                steps.add(new Step(2, away, c));
            }
            if (small >= 0 && held[3] < Long.parseLong(rules.get(small)[3])) {
                c = c.times(share(rules, small, 5, 100));
                steps.add(new Step(3, small, c));
            }
            int round = find(rules, "round", -1);
            if (round >= 0) {
                long n = Long.parseLong(rules.get(round)[1]);
                c = Fraction.of(c.times(Fraction.of(1, n)).plus(Fraction.of(1, 2)).floor() * n, 1);
                steps.add(new Step(4, round, c));
            }
            return new Reckoned(-1, c, free, steps);
        }

        long duty(int lot, long day, long on, int part) {
            if (lot < 0 || lot > 29 || !day(day) || !day(on) || part < 0 || part > 1) {
                return Checks.LEAST;
            }
            lastLot = lot;
            last = reckon(lot, day, on);
            return last.reason >= 0 ? Checks.LEAST : last.cents.part(part);
        }

        int open(int what) {
            if (last == null || what < 0 || what > 2) {
                return -1;
            }
            return what == 0 ? lastLot : what == 1 ? last.reason : last.steps.size();
        }

        int step(int lot, int k, int what) {
            if (last == null || lot != lastLot || k < 0 || k >= last.steps.size() || what < 0 || what > 2) {
                return -1;
            }
            Step s = last.steps.get(k);
            return what == 0 ? s.letter : what == 1 ? s.rule : (int) s.behind.floor();
        }

        static boolean month(int month) {
            return month >= 0 && month <= 3000;
        }

        long allowed(int month, int part) {
            if (!month(month) || part < 0 || part > 1) {
                return -1;
            }
            Fraction sum = Fraction.ZERO;
            for (int lot = 0; lot < 30; lot++) {
                sum = sum.plus(reckon(lot, 30L * month + 29, 30L * month + 29).free);
            }
            return sum.part(part);
        }

        int returned(int month) {
            if (!month(month)) {
                return -1;
            }
            TreeMap<Integer, Long> before = returns.getOrDefault(month, new TreeMap<>());
            TreeMap<Integer, Long> now = new TreeMap<>();
            for (Told f : facts) {
                if (f.kind == 2 && f.day / 30 == month) {
                    now.put(f.lot, reckon(f.lot, 30L * month + 29, lastKnowing).floor());
                }
            }
            rows.clear();
            for (Map.Entry<Integer, Long> e : now.entrySet()) {
                long old = before.getOrDefault(e.getKey(), Checks.LEAST);
                boolean both = old != Checks.LEAST && e.getValue() != Checks.LEAST;
                rows.add(new long[] {e.getKey(), e.getValue(), both ? e.getValue() - old : 0});
            }
            returns.put(month, now);
            return rows.size();
        }

        long row(int k, int what) {
            return k < 0 || k >= rows.size() || what < 0 || what > 2 ? -1 : rows.get(k)[what];
        }

        long difference(int month, long on) {
            long sum = 0;
            if (day(on) && returns.containsKey(month)) {
                for (Map.Entry<Integer, Long> e : returns.get(month).entrySet()) {
                    if (e.getValue() != Checks.LEAST) {
                        sum += Math.max(0, reckon(e.getKey(), 30L * month + 29, on).floor()) - e.getValue();
                    }
                }
            }
            return sum;
        }

        long interest(int month, long day, int part) {
            if (!day(day) || part < 0 || part > 1 || !returns.containsKey(month)) {
                return Checks.LEAST;
            }
            long lastDay = 30L * month + 29;
            List<String[]> rules = edited(lastDay);
            int late = rules == null ? -1 : find(rules, "late", -1);
            if (late < 0 || day <= lastDay) {
                return part;
            }
            long sum = 0;
            for (long cents : returns.get(month).values()) {
                sum += Math.max(0, cents);
            }
            return Fraction.of(sum, 1).times(share(rules, late, 1, 100))
                    .times(Fraction.of(day - lastDay, 1)).part(part);
        }
    }

    static final class Run {
        final int seed;
        final Random random;
        final DutyRules real = new DutyRules();
        final Model model = new Model();
        int calls = 0;

        Run(int seed) {
            this.seed = seed;
            random = new Random(seed);
        }

        /** Most runs begin with rates and facts that leave few duties open. */
        void go() {
            if (random.nextInt(10) != 0) {
                text("rate 0 from 0 to 10000 pay 2450;rate 1 from 50 to 10000 pay " + pick(1, 999, 12345) + ";",
                        pick(0, 0, 0, 29, 30));
                for (int i = 0; i < 24; i++) {
                    int kind = i % 6;
                    fact(pick(0, 1, 2, 29), kind, pick(0, 0, 1, 29, 30), someValue(kind), 1);
                    fact(i / 6, kind, 0, someValue(kind), 1);
                }
            }
            while (calls < CALLS) {
                int what = random.nextInt(200);
                if (what < 1) {
                    text(random.nextInt(2) == 0 ? "" : "rate 1 from 0 to 9000 pay 777;", someDay());
                } else if (what < 40) {
                    tellFact();
                } else {
                    ask();
                }
            }
        }

        void tellEdges() {
            for (int lot : INTS) {
                for (int kind : INTS) {
                    for (long day : LONGS) {
                        due("told", real.told(lot, kind, day) ? 1 : 0, model.told(lot, kind, day) ? 1 : 0, lot, kind, day);
                        for (long above : LONGS) {
                            for (long below : LONGS) {
                                fact(lot, kind, day, above, below);
                            }
                        }
                    }
                }
            }
            for (long day : LONGS) {
                due("edition", real.edition(day), model.edition(day), day);
            }
            for (int u : INTS) {
                due("unit", real.unit(u) ? 1 : 0, model.unit(u) ? 1 : 0, u);
            }
            due("read", real.read(), model.read());
        }

        void askEdges() {
            for (int a : INTS) {
                due("returned", real.returned(a), model.returned(a), a);
                due("open", real.open(a), model.open(a), a);
                due("write", real.write(a), model.write(a), a);
                for (int b : INTS) {
                    due("allowed", real.allowed(a, b), model.allowed(a, b), a, b);
                    due("row", real.row(a, b), model.row(a, b), a, b);
                    for (int c : INTS) {
                        due("step", real.step(a, b, c), model.step(a, b, c), a, b, c);
                    }
                }
                for (long day : LONGS) {
                    due("difference", real.difference(a, day), model.difference(a, day), a, day);
                    for (int part : INTS) {
                        due("interest", real.interest(a, day, part), model.interest(a, day, part), a, day, part);
                        for (long on : LONGS) {
                            due("duty", real.duty(a, day, on, part), model.duty(a, day, on, part), a, day, on, part);
                        }
                    }
                }
            }
        }

        void due(String call, long got, long want, Object... arguments) {
            calls++;
            if (got != want) {
                Checks.due("seed " + seed + ": " + call + Arrays.toString(arguments), got, want);
            }
        }

        int pick(int... of) {
            return of[random.nextInt(of.length)];
        }

        void text(String first, long from) {
            StringBuilder words = new StringBuilder(first);
            int rules = 1 + random.nextInt(7);
            for (int i = 0; i < rules; i++) {
                words.append(rule());
            }
            if (random.nextInt(12) == 0) {
                words.insert(random.nextInt(words.length() + 1), (char) pick(';', ' ', '0', '9', 'x', '\n'));
            }
            if (random.nextInt(12) == 0) {
                words.setLength(random.nextInt(words.length() + 1));
            }
            for (int i = 0; i < words.length(); i++) {
                int u = words.charAt(i);
                due("unit", real.unit(u) ? 1 : 0, model.unit(u) ? 1 : 0, u);
            }
            due("read", real.read(), model.read(), words);
            due("edition", real.edition(from), model.edition(from), from);
        }

        String rule() {
            String blank = random.nextInt(4) == 0 ? " \n" : "";
            int goods = random.nextInt(2);
            int share = pick(0, 1, 33, 50, 99, 100, random.nextInt(100));
            switch (random.nextInt(9)) {
                case 0: case 1: case 2:
                    return "rate " + goods + " from " + pick(0, 0, 50, 100) + blank + " to "
                        + pick(101, 5000, 10000) + " pay " + pick(0, 1, 999, 2450, 12345, 1000000) + ";";
                case 3: return "small " + goods + " below " + pick(0, 500, 100000000) + " times " + share + blank + ";";
                case 4: case 5: return "loss " + goods + blank + " upto " + share + ";";
                case 6: return "away " + goods + " times " + share + ";" + blank;
                case 7: return once("round " + pick(1, 2, 5, 10, 1000) + ";");
                default: return once("late " + share + ";");
            }
        }

        /** Seldom, as most texts with two of them are wrong. */
        String once(String rule) {
            return random.nextInt(2) == 0 ? rule : "";
        }

        long someDay() {
            return pick(0, 1, 29, 30, 31, 59, 60, random.nextInt(95), random.nextInt(95), 100000,
                    random.nextInt(30) == 0 ? -1 : 40, random.nextInt(30) == 0 ? 100001 : 10);
        }

        int someLot() {
            return random.nextInt(40) == 0 ? pick(-1, 30) : pick(0, 0, 1, 1, 2, 3, 29);
        }

        long someValue(int kind) {
            switch (kind) {
                case 0: return pick(0, 1, 0, 1, 0, 1, 0, 1, random.nextInt(12) - 1);
                case 1: return pick(0, 50, 100, 4999, 5000, 9999, 10000, random.nextInt(10002));
                case 3: return pick(0, 499, 500, 99999999, 100000000, random.nextInt(1000));
                default: return pick(0, 1, 100, 101, 777, 1000000, 1000001, random.nextInt(100000));
            }
        }

        void tellFact() {
            int lot = someLot();
            int kind = random.nextInt(60) == 0 ? pick(-1, 6) : random.nextInt(6);
            long day = someDay();
            if (random.nextInt(4) == 0) {
                due("told", real.told(lot, kind, day) ? 1 : 0, model.told(lot, kind, day) ? 1 : 0, lot, kind, day);
                return;
            }
            long below = pick(1, 1, 1, 2, 7, 100, 101, 0);
            fact(lot, kind, day, someValue(kind) * below + (random.nextInt(10) == 0 ? 1 : 0), below);
        }

        void fact(int lot, int kind, long day, long above, long below) {
            due("fact", real.fact(lot, kind, day, above, below) ? 1 : 0,
                    model.fact(lot, kind, day, above, below) ? 1 : 0, lot, kind, day, above, below);
        }

        void ask() {
            int lot = someLot();
            long day = someDay();
            long on = someDay();
            int month = pick(0, 0, 0, 0, 1, 1, 1, 2, 2, 3000, -1, 3333);
            int part = pick(0, 1, 0, 1, 0, 1, 0, 1, 2);
            int k = pick(0, 0, 1, 1, 2, 2, 3, 4, 5, -1);
            int what = random.nextInt(30) == 0 ? pick(-1, 3) : random.nextInt(3);
            switch (random.nextInt(10)) {
                case 0: case 1: due("duty", real.duty(lot, day, on, part), model.duty(lot, day, on, part), lot, day, on, part); break;
                case 2: due("open", real.open(what), model.open(what), what); break;
                case 3: {
                    int ofLot = random.nextInt(4) == 0 ? lot : real.open(0);
                    due("step", real.step(ofLot, k, what), model.step(ofLot, k, what), ofLot, k, what);
                    break;
                }
                case 4: due("allowed", real.allowed(month, part), model.allowed(month, part), month, part); break;
                case 5: due("returned", real.returned(month), model.returned(month), month); break;
                case 6: due("row", real.row(k, what), model.row(k, what), k, what); break;
                case 7: due("difference", real.difference(month, on), model.difference(month, on), month, on); break;
                case 8: due("interest", real.interest(month, day, part), model.interest(month, day, part), month, day, part); break;
                default: {
                    int i = random.nextInt(200) - 2;
                    due("write", real.write(i), model.write(i), i);
                }
            }
        }
    }
}
