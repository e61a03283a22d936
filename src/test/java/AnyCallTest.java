import java.util.Random;

/** No call throws or fails to end, whatever its arguments; the same calls give the same answers. */
public final class AnyCallTest {
    private static final long[] EDGES = {0, 1, -1, 2, 3, 5, 6, 9, 10, 29, 30, 59, 99, 100, 101, 127, 128, 300, 3000,
        3001, 10000, 10001, 100000, 100001, 1000000, 100000000, Integer.MAX_VALUE, Integer.MIN_VALUE,
        1L << 31, 1L << 32, Long.MAX_VALUE, Long.MIN_VALUE, Long.MIN_VALUE + 1};

    private static final String[] TEXTS = {"rate 1 from 0 to 10000 pay 1000000;", "small 1 below 100000000 times 100;",
        "loss 1 upto 100;", "away 1 times 100;", "round 1000;", "late 100;", "rate", "\n", ";", "99999999999999999999 "};

    public static void main(String[] args) {
        for (int seed = 0; seed < 400; seed++) {
            Checks.due("seed " + seed + " again", run(seed), run(seed));
        }
        Checks.end();
    }

    private static long run(int seed) {
        Random random = new Random(seed);
        DutyRules x = new DutyRules();
        long sum = 0;
        for (int i = 0; i < 2000; i++) {
            sum = sum * 31 + call(x, random);
        }
        return sum;
    }

    private static long some(Random random) {
        int kind = random.nextInt(4);
        return kind == 0 ? EDGES[random.nextInt(EDGES.length)] : kind == 1 ? random.nextInt(100) : random.nextInt(4);
    }

    private static int any(Random random) {
        return (int) some(random);
    }

    private static long call(DutyRules x, Random r) {
        switch (r.nextInt(17)) {
            case 0: return x.unit(any(r)) ? 1 : 0;
            case 1: return x.read();
            case 2: return x.edition(some(r));
            case 3: case 4: return x.fact(any(r), any(r), some(r), some(r), some(r)) ? 1 : 0;
            case 5: return x.told(any(r), any(r), some(r)) ? 1 : 0;
            case 6: return x.duty(any(r), some(r), some(r), any(r));
            case 7: return x.open(any(r));
            case 8: return x.step(any(r), any(r), any(r));
            case 9: return x.allowed(any(r), any(r));
            case 10: return x.returned(any(r));
            case 11: return x.row(any(r), any(r));
            case 12: return x.difference(any(r), some(r));
            case 13: return x.write(any(r));
            case 14: return x.interest(any(r), some(r), any(r));
            default: {
                String text = TEXTS[r.nextInt(TEXTS.length)];
                for (int i = 0; i < text.length(); i++) {
                    x.unit(text.charAt(i));
                }
                return r.nextInt(3) == 0 ? x.read() : 0;
            }
        }
    }
}
