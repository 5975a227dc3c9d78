import java.util.HashMap;
import java.util.Map;

/** A shed's turns, asked of objects of their own, as one is used for 512 calls at most. */
final class Turns {
    private static final int MOST_ASKED = 400;

    private final String shed;
    private final Map<Long, Integer> known = new HashMap<>();
    private FourWheels x;
    private int asked;

    Turns(String shed) {
        this.shed = shed;
    }

    int of(int from, int to) {
        return known.computeIfAbsent(from * 10000L + to, k -> ask(from, to));
    }

    private int ask(int from, int to) {
        if (asked % MOST_ASKED == 0) {
            x = Told.of(shed);
        }
        asked++;
        return x.steps(from, to);
    }
}
