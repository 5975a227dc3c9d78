import java.util.Arrays;

/** Best and shortest rows by trying every row, the first by places first. */
final class PlainRows {
    private final Turns turns;
    private final long[] numbers;
    private final long[] weights;
    private final int pull;
    private final boolean byWeight;
    private final int[] row;
    private final int[] best;
    private long least = Long.MAX_VALUE;

    private PlainRows(Turns turns, int pull, boolean byWeight, long[] weights, long[] numbers) {
        this.turns = turns;
        this.pull = pull;
        this.byWeight = byWeight;
        this.weights = weights;
        this.numbers = numbers;
        row = new int[numbers.length];
        best = new int[numbers.length];
    }

    /** Behind some tries, holds all that best and shortest answer of some numbers against every row of them. */
    static void compare(Edges e, String shed, int[] tries, int pull, long... numbers) {
        FourWheels x = Told.of(shed);
        FourWheels untried = Told.of(shed);
        for (int number : tries) {
            x.tries(number);
        }
        Told.lay(x, 0, numbers);
        long[] weights = new long[numbers.length];
        for (int i = 0; i < numbers.length; i++) {
            weights[i] = untried.likely((int) numbers[i]);
        }
        for (boolean byWeight : new boolean[] {true, false}) {
            PlainRows rows = new PlainRows(new Turns(shed), pull, byWeight, weights, numbers);
            rows.extend(0, 0, x.count(7), 0, 0);
            String call = shed + (byWeight ? " best of " : " shortest of ") + Arrays.toString(numbers);
            e.is(call, byWeight ? x.best(0, 0) : x.shortest(0, 0), rows.least);
            for (int k = 0; k < 8; k++) {
                long due = k < numbers.length ? numbers[rows.best[k]] : FourWheels.NONE;
                e.is(call + ", place " + k, byWeight ? x.best(0, 10 + k) : x.shortest(0, 10 + k), due);
            }
        }
    }

    private void extend(int k, int done, int at, long seconds, long cost) {
        if (k == numbers.length) {
            if (cost < least) {
                least = cost;
                System.arraycopy(row, 0, best, 0, k);
            }
            return;
        }
        for (int i = 0; i < numbers.length; i++) {
            if ((done >> i & 1) == 0) {
                int leg = turns.of(at, (int) numbers[i]);
                long then = seconds + leg + pull;
                row[k] = i;
                extend(k + 1, done | 1 << i, (int) numbers[i], then, byWeight ? cost + weights[i] * then : cost + leg);
            }
        }
    }
}
