import java.math.BigInteger;

/** When to saw, by every number of tries. */
final class PlainSaw {
    private final FourWheels x;
    private final int[] order;
    private final long[] weights;
    private final int[] legs;
    private final int bar;
    private final int barSeconds;
    private final int saw;
    private final long all;
    private final int wrongBefore;

    private PlainSaw(String shed, int pull, int bar, int barSeconds, int saw, int wrong) {
        this.bar = bar;
        this.barSeconds = barSeconds;
        this.saw = saw;
        x = behindWrongOnes(shed, wrong);
        all = x.all();
        wrongBefore = x.count(10);
        int most = Math.min(200, x.left());
        order = new int[most];
        weights = new long[most];
        legs = new int[most];
        FourWheels other = behindWrongOnes(shed, wrong);
        Turns turns = new Turns(shed);
        int at = x.count(7);
        for (int k = 0; k < most; k++) {
            order[k] = x.order(k);
            weights[k] = other.likely(order[k]);
            legs[k] = turns.of(at, order[k]) + pull;
            at = order[k];
        }
    }

    private static FourWheels behindWrongOnes(String shed, int wrong) {
        FourWheels x = Told.of(shed);
        int last = x.count(1) - 1;
        for (int i = 0; i < wrong; i++) {
            x.tries(last);
        }
        return x;
    }

    /** So many wrong tries first, all of the last number; the bar comes behind so many (0: no bar). */
    static void compare(Edges e, String text, int pull, int bar, int barSeconds, int saw, int wrong) {
        String shed = text + "pull " + pull + ";" + (bar > 0 ? "bar " + bar + " " + barSeconds + ";" : "") + "saw " + saw + ";";
        PlainSaw plain = new PlainSaw(shed, pull, bar, barSeconds, saw, wrong);
        long least = Long.MAX_VALUE;
        int best = 0;
        for (int k = 0; k <= plain.order.length; k++) {
            long top = plain.topOf(k);
            if (top < least) {
                least = top;
                best = k;
            }
        }
        BigInteger upper = BigInteger.valueOf(least);
        BigInteger lower = BigInteger.valueOf(plain.all);
        BigInteger common = upper.gcd(lower);
        String call = shed + " behind " + wrong + " wrong ones, saw";
        e.is(call + "(0)", plain.x.saw(0), best);
        e.is(call + "(1)", plain.x.saw(1), upper.divide(common).longValue());
        e.is(call + "(2)", plain.x.saw(2), lower.divide(common).longValue());
    }

    /** Weight times seconds by k tries and the saw. */
    private long topOf(int k) {
        long top = 0;
        long seconds = 0;
        long rest = all;
        int wrong = wrongBefore;
        for (int i = 0; i < k; i++) {
            seconds += legs[i];
            top += weights[i] * seconds;
            rest -= weights[i];
            wrong++;
            if (bar > 0 && wrong == bar) {
                wrong = 0;
                seconds += i + 1 < k ? barSeconds : 0;
            }
        }
        return top + rest * (seconds + saw);
    }
}
