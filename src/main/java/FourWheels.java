import java.util.Arrays;

/** A shed's lock of up to four wheels: what its clues tell of its number, and what trying it takes. */
public final class FourWheels {
    /** There is none. */
    public static final int NONE = -1;

    private static final int NO_SUCH = -2;
    private static final int WRONG_NUMBER = -3;
    private static final int WRONG_SIZE = -4;
    private static final int NOT_NOW = -5;
    private static final int MISSING = -6;
    private static final int NO_PLACE = -7;
    private static final int FAULTY = -30;

    private static final int MOST_BYTES = 900;
    private static final int FEED_BYTES = 20;
    private static final int MOST_WHEELS = 4;
    private static final int MOST_FIGURES = 10;
    private static final int MOST_CLUES = 8;
    private static final int MOST_MATES = 4;
    private static final int MOST_NUMBERS = 10000;
    private static final int MASKS = 1 << MOST_CLUES;
    private static final int MOST_PLACES = 40;
    private static final int MOST_UNDONE = 8;
    private static final int MOST_IN_ROW = 8;
    private static final int MOST_TOLD_TRIES = 6;
    private static final int MOST_TIMES = 30;
    private static final int MOST_BEFORE_SAW = 200;
    private static final int MOST_SECONDS = 999;
    private static final int FEEL_SECONDS = 2;
    private static final int TRAYS = 4;
    private static final int SORTS = 4;
    private static final int IMAGES = 2;
    private static final int ROW_WHAT = 10;

    private final byte[] tape = new byte[MOST_BYTES];
    private int taped;
    private final Tokens tokens = new Tokens();
    private final Reader reader = new Reader();
    private final Clues clues = new Clues();
    private final Shed draft = new Shed();
    private final Shed told = new Shed();
    private final Lock lock = new Lock();
    private final History history = new History();
    private final Ranking ranking = new Ranking();
    private final int[] mateWeights = new int[MASKS];
    private final Legs legs = new Legs();
    private final Pace pace = new Pace();
    private final Tray[] trays = new Tray[TRAYS];
    // both null till an image is made
    private final Shed[] shedImages = new Shed[IMAGES];
    private final Lock[] lockImages = new Lock[IMAGES];
    private int[] soonest = new int[1];
    private int drawn;

    /** No wheels, nothing tried, all trays missing. */
    public FourWheels() {
        for (int i = 0; i < TRAYS; i++) {
            trays[i] = new Tray();
        }
    }

    // ---- the shed

    /** Puts twenty bytes behind the tape's; how many it has then. */
    public int feed(int a, int b, int c, int d, int e) {
        if (taped + FEED_BYTES > MOST_BYTES) {
            return NOT_NOW;
        }
        putBytes(a);
        putBytes(b);
        putBytes(c);
        putBytes(d);
        putBytes(e);
        return taped;
    }

    /** Reads the tape's first n bytes as the shed; how many lines it has. */
    public int shed(int n) {
        if (n < 0 || n > taped) {
            return WRONG_NUMBER;
        }
        tokens.split(tape, n);
        taped = 0;
        reader.readText(tokens, draft, clues);
        if (reader.fault != 0) {
            return FAULTY - reader.fault;
        }
        told.takeFrom(draft);
        lock.begin(told, clues);
        history.forget();
        return told.lines;
    }

    /** Of the latest text read: its fault (0) or the fault's place (1). */
    public int fault(int what) {
        if (what == 0) {
            return reader.fault;
        }
        return what == 1 ? reader.place : NONE;
    }

    /** What is told of a wheel, how it stands, what figure it surely has. */
    public int wheel(int w, int what) {
        if (!isWheel(w)) {
            return NO_SUCH;
        }
        switch (what) {
            case 0:
                return told.figures[w];
            case 1:
                return told.stiff[w];
            case 2:
                return told.round[w];
            case 3:
                return told.figureOf(lock.stand, w);
            case 4:
                return sureFigure(w);
            default:
                return NO_SUCH;
        }
    }

    /** Whether a clue holds for a number. */
    public int holds(int clue, int number) {
        if (clue < 0 || clue >= told.clues) {
            return NO_SUCH;
        }
        if (!isNumber(number)) {
            return WRONG_NUMBER;
        }
        return lock.maskOf(number) >> clue & 1;
    }

    /** A figure of a number. */
    public int figure(int number, int w) {
        if (!isWheel(w)) {
            return NO_SUCH;
        }
        if (!isNumber(number)) {
            return WRONG_NUMBER;
        }
        return told.figureOf(number, w);
    }

    // ---- how likely

    /** The weight of a number that is left, 0 for others. */
    public long likely(int number) {
        if (!isNumber(number)) {
            return WRONG_NUMBER;
        }
        return leftWeight(number);
    }

    /** How many are left. */
    public int left() {
        return lock.leftOnes();
    }

    /** The weight of all that are left. */
    public long all() {
        return leftSum();
    }

    /** The k-th of those left, the likeliest first. */
    public int order(int k) {
        if (k < 0) {
            return WRONG_NUMBER;
        }
        rankLeft();
        return ranking.at(k);
    }

    /** The chance that it is one of the first n in order, as a fraction. */
    public long chance(int n, int what) {
        if (!isPart(what)) {
            return NO_SUCH;
        }
        if (n < 0) {
            return WRONG_NUMBER;
        }
        if (lock.leftOnes() == 0) {
            return NOT_NOW;
        }
        rankLeft();
        return lowest(leftWeightOfFirst(n), leftSum(), what);
    }

    /** How many tries in order it takes on the average, as a fraction. */
    public long mean(int what) {
        if (!isPart(what)) {
            return NO_SUCH;
        }
        if (lock.leftOnes() == 0) {
            return NOT_NOW;
        }
        rankLeft();
        long triesTimesWeight = 0;
        for (int k = 0; k < ranking.size; k++) {
            triesTimesWeight += (k + 1) * leftWeight(ranking.at(k));
        }
        return lowest(triesTimesWeight, leftSum(), what);
    }

    /** The weight of all left with a figure on a wheel. */
    public long tells(int w, int figure) {
        if (!isWheel(w)) {
            return NO_SUCH;
        }
        if (!isFigure(w, figure)) {
            return WRONG_NUMBER;
        }
        long sum = 0;
        for (int number = 0; number < told.total; number++) {
            if (told.figureOf(number, w) == figure) {
                sum += leftWeight(number);
            }
        }
        return sum;
    }

    /** The clue whose greater part of the weight left is least. */
    public int telling() {
        if (lock.leftOnes() == 0) {
            return NONE;
        }
        long whole = leftSum();
        int best = NONE;
        long least = 0;
        for (int clue = 0; clue < told.clues; clue++) {
            long held = leftWeightHeld(clue);
            long greater = Math.max(held, whole - held);
            if (best == NONE || greater < least) {
                best = clue;
                least = greater;
            }
        }
        return best;
    }

    /** How many are left for which all clues hold but at most n. */
    public int but(int n) {
        if (n < 0 || n > MOST_CLUES) {
            return WRONG_NUMBER;
        }
        int found = 0;
        for (int number = 0; number < told.total; number++) {
            if (lock.isLeft(number) && told.clues - Integer.bitCount(lock.maskOf(number)) <= n) {
                found++;
            }
        }
        return found;
    }

    // ---- tries

    /** Tries a number: 1 if it is open then, else 0. */
    public int tries(int number) {
        if (!isNumber(number)) {
            return WRONG_NUMBER;
        }
        if (lock.open) {
            return NOT_NOW;
        }
        Mark mark = history.mark(lock);
        lock.attempt(told, number, mark);
        history.keep();
        return lock.open ? 1 : 0;
    }

    /** Feels a wheel at a figure: 1 if what opens it has that figure there, else 0. */
    public int feel(int w, int figure) {
        if (!isWheel(w)) {
            return NO_SUCH;
        }
        if (!isFigure(w, figure)) {
            return WRONG_NUMBER;
        }
        if (told.opens == NONE) {
            return NOT_NOW;
        }
        history.mark(lock);
        boolean isThat = lock.touch(told, w, figure);
        history.keep();
        return isThat ? 1 : 0;
    }

    /** Takes the latest n calls back; how many more can be. */
    public int undo(int n) {
        if (n < 1 || n > MOST_UNDONE || n > history.size) {
            return WRONG_NUMBER;
        }
        for (int i = 0; i < n; i++) {
            lock.takeBack(told, history.latest());
        }
        return history.size;
    }

    /** What a tray's evenings would come to. */
    public int judge(int tray, int what) {
        if (!isTray(tray) || what < 0 || what > 3) {
            return NO_SUCH;
        }
        if (trays[tray].isMissing()) {
            return MISSING;
        }
        int before = lock.seconds;
        Mark mark = history.mark(lock);
        int done = tryTray(trays[tray], mark);
        int answer;
        if (what == 0) {
            answer = done < trays[tray].size ? done : NONE;
        } else if (what == 1) {
            answer = lock.seconds - before;
        } else if (what == 2) {
            answer = lock.open ? 1 : 0;
        } else {
            answer = lock.leftOnes();
        }
        lock.takeBack(told, mark);
        return answer;
    }

    /** Tries a tray's numbers till one can't be; how many. */
    public int perform(int tray) {
        if (!isTray(tray)) {
            return NO_SUCH;
        }
        if (trays[tray].isMissing()) {
            return MISSING;
        }
        int done = tryTray(trays[tray], history.mark(lock));
        if (done > 0) {
            history.keep();
        }
        return done;
    }

    /** Tries by draws, so many times; the seconds these took. */
    public int year(int seed, int times) {
        if (times < 1 || times > MOST_TIMES) {
            return WRONG_NUMBER;
        }
        int before = lock.seconds;
        Mark mark = history.mark(lock);
        drawn = seed;
        int done = 0;
        for (int i = 0; i < times && !lock.open; i++) {
            int leftOnes = lock.leftOnes();
            if (leftOnes == 0) {
                break;
            }
            lock.attempt(told, drawNumber(leftOnes), mark);
            done++;
        }
        if (done > 0) {
            history.keep();
        }
        return lock.seconds - before;
    }

    // ---- steps

    /** The turns from a number to another. */
    public int steps(int from, int to) {
        if (!isNumber(from) || !isNumber(to)) {
            return WRONG_NUMBER;
        }
        return told.turns(from, to);
    }

    /** The one left with the fewest turns from how the wheels stand. */
    public int nearest() {
        return nearestLeft();
    }

    /** The k-th number of the way through all. */
    public int through(int k) {
        if (!isNumber(k)) {
            return WRONG_NUMBER;
        }
        return told.onTheWay(k);
    }

    /** Where a number is on the way through all. */
    public int along(int number) {
        if (!isNumber(number)) {
            return WRONG_NUMBER;
        }
        return told.placeOnTheWay(number);
    }

    /** The turns of the way's first n numbers. */
    public int length(int n) {
        if (n < 1 || n > told.total) {
            return WRONG_NUMBER;
        }
        return told.turnsOfTheWay(n);
    }

    // ---- rows, sawing

    /** The row of a tray's numbers that is best on the mean. */
    public long best(int tray, int what) {
        int code = takeRow(tray, what);
        if (code != 0) {
            return code;
        }
        legs.weigh(told, lock);
        legs.solve();
        return what == 0 ? legs.least : legs.inRow(what - ROW_WHAT);
    }

    /** The row of a tray's numbers with the fewest turns. */
    public int shortest(int tray, int what) {
        int code = takeRow(tray, what);
        if (code != 0) {
            return code;
        }
        legs.measure(told, lock);
        legs.solve();
        return what == 0 ? (int) legs.least : legs.inRow(what - ROW_WHAT);
    }

    /** After how many tries to saw, and the seconds it takes on the average. */
    public long saw(int what) {
        if (what < 0 || what > 2) {
            return NO_SUCH;
        }
        if (told.saw == 0 || lock.leftOnes() == 0 || lock.open) {
            return NOT_NOW;
        }
        return planSawing(what);
    }

    // ---- mates

    /** The k-th number that a mate would try. */
    public int mate(int m, int k) {
        if (!isMate(m)) {
            return NO_SUCH;
        }
        if (k < 0) {
            return WRONG_NUMBER;
        }
        rankOfMate(m, Lock.TRIED);
        return ranking.at(k);
    }

    /** How likely a mate opens it in n tries at most, as a fraction. */
    public long guarded(int m, int n, int what) {
        if (!isMate(m) || !isPart(what)) {
            return NO_SUCH;
        }
        if (n < 0 || n > MOST_NUMBERS) {
            return WRONG_NUMBER;
        }
        if (lock.leftOnes() == 0) {
            return NOT_NOW;
        }
        rankOfMate(m, Lock.TRIED);
        return lowest(leftWeightOfFirst(n), leftSum(), what);
    }

    /** The mate who opens it likeliest in n tries. */
    public int danger(int n) {
        if (n < 0 || n > MOST_NUMBERS) {
            return WRONG_NUMBER;
        }
        if (lock.leftOnes() == 0) {
            return NOT_NOW;
        }
        int worst = NONE;
        long most = 0;
        for (int m = 0; m < told.mates; m++) {
            rankOfMate(m, Lock.TRIED);
            long reached = leftWeightOfFirst(n);
            if (worst == NONE || reached > most) {
                worst = m;
                most = reached;
            }
        }
        return worst;
    }

    /** How many untried numbers two mates hold possible together. */
    public int both(int m, int n) {
        if (!isMate(m) || !isMate(n)) {
            return NO_SUCH;
        }
        told.fillWeights(told.knows[m] | told.knows[n], mateWeights);
        int found = 0;
        for (int number = 0; number < told.total; number++) {
            if (!lock.hasMark(number, Lock.TRIED) && mateWeights[lock.maskOf(number)] > 0) {
                found++;
            }
        }
        return found;
    }

    /** The one left that the mates come to latest. */
    public int hidden() {
        if (told.mates == 0) {
            return NONE;
        }
        soonest = roomFor(soonest, told.total);
        Arrays.fill(soonest, MOST_NUMBERS);
        for (int m = 0; m < told.mates; m++) {
            rankOfMate(m, Lock.TRIED);
            for (int k = 0; k < ranking.size; k++) {
                int number = ranking.at(k);
                soonest[number] = Math.min(soonest[number], k);
            }
        }
        return latestLeft();
    }

    /** The mates, as bits, who would try just a tray's numbers first. */
    public int who(int tray) {
        if (!isTray(tray)) {
            return NO_SUCH;
        }
        Tray asked = trays[tray];
        if (asked.isMissing()) {
            return MISSING;
        }
        if (asked.size < 1 || asked.size > MOST_TOLD_TRIES) {
            return WRONG_SIZE;
        }
        if (!asked.allWithin(told.total - 1)) {
            return WRONG_NUMBER;
        }
        int bits = 0;
        for (int m = 0; m < told.mates; m++) {
            rankOfMate(m, 0);
            if (beginsWith(asked)) {
                bits |= 1 << m;
            }
        }
        return bits;
    }

    // ---- by seconds

    /** How many rows of numbers take just the tray's seconds. */
    public long rows(int tray) {
        if (!isTray(tray)) {
            return NO_SUCH;
        }
        Tray asked = trays[tray];
        if (asked.isMissing()) {
            return MISSING;
        }
        if (asked.size < 1 || asked.size > 2) {
            return WRONG_SIZE;
        }
        if (!asked.allWithin(MOST_SECONDS)) {
            return WRONG_NUMBER;
        }
        int first = (int) asked.at(0);
        if (asked.size == 1) {
            return pace.single(told, lock.stand, first);
        }
        return pace.pairs(told, lock.stand, first, (int) asked.at(1));
    }

    /** How many of those left are so many seconds of turns away, or fewer. */
    public int near(int seconds) {
        if (seconds < 0) {
            return WRONG_NUMBER;
        }
        int found = 0;
        for (int number = 0; number < told.total; number++) {
            if (lock.isLeft(number) && told.turns(lock.stand, number) <= seconds) {
                found++;
            }
        }
        return found;
    }

    // ---- trays, images

    /** Makes a tray anew, with n numbers of a sort. */
    public int numbers(int tray, int sort, int n) {
        if (!isTray(tray) || sort < 0 || sort >= SORTS) {
            return NO_SUCH;
        }
        if (n < 0 || n > MOST_PLACES) {
            return WRONG_NUMBER;
        }
        trays[tray].lay(sort, n);
        return 0;
    }

    /** Puts a number into a tray; as it is there. */
    public long write(int tray, int i, long v) {
        if (!isTray(tray)) {
            return NO_SUCH;
        }
        if (trays[tray].isMissing()) {
            return MISSING;
        }
        if (i < 0 || i >= trays[tray].size) {
            return NO_PLACE;
        }
        trays[tray].put(i, v);
        return trays[tray].at(i);
    }

    /** Puts the first in order into a tray; how many. */
    public int copy(int tray) {
        if (!isTray(tray)) {
            return NO_SUCH;
        }
        if (trays[tray].isMissing()) {
            return MISSING;
        }
        rankLeft();
        int put = Math.min(ranking.size, trays[tray].size);
        for (int i = 0; i < put; i++) {
            trays[tray].put(i, ranking.at(i));
        }
        return put;
    }

    /** Makes an image of the shed and of what was done. */
    public int image(int i) {
        if (!isImage(i)) {
            return NO_SUCH;
        }
        if (shedImages[i] == null || lockImages[i] == null) {
            shedImages[i] = new Shed();
            lockImages[i] = new Lock();
        }
        shedImages[i].takeFrom(told);
        lockImages[i].takeFrom(lock);
        return 0;
    }

    /** Goes back to an image. */
    public int restore(int i) {
        if (!isImage(i)) {
            return NO_SUCH;
        }
        if (shedImages[i] == null || lockImages[i] == null) {
            return NOT_NOW;
        }
        told.takeFrom(shedImages[i]);
        lock.takeFrom(lockImages[i]);
        history.forget();
        return 0;
    }

    /** One of the counts of the document. */
    public int count(int what) {
        switch (what) {
            case 0:
                return told.wheels;
            case 1:
                return told.total;
            case 2:
                return told.clues;
            case 3:
                return told.mates;
            case 4:
                return lock.seconds;
            case 5:
                return history.size;
            case 6:
                return lock.open ? 1 : 0;
            case 7:
                return lock.stand;
            case 8:
                return taped;
            case 9:
                return told.lines;
            case 10:
                return lock.wrong;
            case 11:
                return lock.tried;
            default:
                return NONE;
        }
    }

    // ---- what the calls share

    private boolean isWheel(int w) {
        return w >= 0 && w < told.wheels;
    }

    private boolean isFigure(int w, int figure) {
        return figure >= 0 && figure < told.figures[w];
    }

    private boolean isNumber(int number) {
        return number >= 0 && number < told.total;
    }

    private boolean isMate(int m) {
        return m >= 0 && m < told.mates;
    }

    private static boolean isTray(int tray) {
        return tray >= 0 && tray < TRAYS;
    }

    private static boolean isImage(int i) {
        return i >= 0 && i < IMAGES;
    }

    private static boolean isPart(int what) {
        return what == 0 || what == 1;
    }

    private void putBytes(int four) {
        for (int shift = 24; shift >= 0 && taped < MOST_BYTES; shift -= 8) {
            tape[taped] = (byte) (four >> shift);
            taped++;
        }
    }

    private int sureFigure(int w) {
        int sure = NONE;
        for (int number = 0; number < told.total; number++) {
            if (lock.isLeft(number)) {
                int figure = told.figureOf(number, w);
                if (sure != NONE && sure != figure) {
                    return NONE;
                }
                sure = figure;
            }
        }
        return sure;
    }

    private long leftWeight(int number) {
        return lock.isLeft(number) ? told.weights[lock.maskOf(number)] : 0;
    }

    private long leftSum() {
        long sum = 0;
        for (int number = 0; number < told.total; number++) {
            sum += leftWeight(number);
        }
        return sum;
    }

    private long leftWeightHeld(int clue) {
        long sum = 0;
        for (int number = 0; number < told.total; number++) {
            if ((lock.maskOf(number) >> clue & 1) == 1) {
                sum += leftWeight(number);
            }
        }
        return sum;
    }

    private void rankLeft() {
        ranking.rank(lock, Lock.GONE, told.weights);
    }

    private void rankOfMate(int m, int barred) {
        told.fillWeights(told.knows[m], mateWeights);
        ranking.rank(lock, barred, mateWeights);
    }

    /** A mate may come to numbers that feeling has ruled out: these weigh nothing. */
    private long leftWeightOfFirst(int n) {
        long sum = 0;
        for (int k = 0; k < n && k < ranking.size; k++) {
            sum += leftWeight(ranking.at(k));
        }
        return sum;
    }

    private static long lowest(long upper, long lower, int what) {
        long divisor = commonDivisor(upper, lower);
        if (divisor == 0) {
            return 0;
        }
        return (what == 0 ? upper : lower) / divisor;
    }

    /** Euclid's way needs fewer than a hundred rounds for any two longs. */
    private static long commonDivisor(long a, long b) {
        for (int i = 0; i < 200 && b != 0; i++) {
            long rest = a % b;
            a = b;
            b = rest;
        }
        return a;
    }

    private int tryTray(Tray tray, Mark mark) {
        for (int i = 0; i < tray.size; i++) {
            long number = tray.at(i);
            if (lock.open || number < 0 || number >= told.total) {
                return i;
            }
            lock.attempt(told, (int) number, mark);
        }
        return tray.size;
    }

    private int nextDraw() {
        drawn = 1103515245 * drawn + 12345;
        return drawn >>> 16;
    }

    private int drawNumber(int leftOnes) {
        int way = nextDraw() % 3;
        if (way == 0) {
            return firstInOrder();
        }
        if (way == 1) {
            return leftOnes == 0 ? NONE : leftByNumber(nextDraw() % leftOnes);
        }
        return nearestLeft();
    }

    private int firstInOrder() {
        int first = NONE;
        long most = 0;
        for (int number = 0; number < told.total; number++) {
            long weight = leftWeight(number);
            if (weight > most) {
                first = number;
                most = weight;
            }
        }
        return first;
    }

    private int leftByNumber(int k) {
        int ahead = 0;
        for (int number = 0; number < told.total; number++) {
            if (lock.isLeft(number)) {
                if (ahead == k) {
                    return number;
                }
                ahead++;
            }
        }
        return NONE;
    }

    private int nearestLeft() {
        int nearest = NONE;
        int fewest = 0;
        for (int number = 0; number < told.total; number++) {
            if (lock.isLeft(number)) {
                int turns = told.turns(lock.stand, number);
                if (nearest == NONE || turns < fewest) {
                    nearest = number;
                    fewest = turns;
                }
            }
        }
        return nearest;
    }

    private int latestLeft() {
        int latest = NONE;
        for (int number = 0; number < told.total; number++) {
            if (lock.isLeft(number) && (latest == NONE || soonest[number] > soonest[latest])) {
                latest = number;
            }
        }
        return latest;
    }

    /** Lays a tray's numbers out for a best or shortest row: 0, or the code that refuses it. */
    private int takeRow(int tray, int what) {
        boolean known = what == 0 || what >= ROW_WHAT && what < ROW_WHAT + MOST_IN_ROW;
        if (!isTray(tray) || !known) {
            return NO_SUCH;
        }
        Tray asked = trays[tray];
        if (asked.isMissing()) {
            return MISSING;
        }
        if (asked.size < 1 || asked.size > MOST_IN_ROW) {
            return WRONG_SIZE;
        }
        if (!asked.allWithin(told.total - 1) || asked.unlikeOnes() < asked.size) {
            return WRONG_NUMBER;
        }
        legs.lay(asked);
        return 0;
    }

    /** The bar is counted ahead of the next try, since one behind the last try is none of the sawing's. */
    private long planSawing(int what) {
        rankLeft();
        long whole = leftSum();
        long rest = whole;
        long opened = 0;
        long seconds = 0;
        int wrong = lock.wrong;
        int from = lock.stand;
        int bestTries = 0;
        long least = rest * told.saw;
        int most = Math.min(ranking.size, MOST_BEFORE_SAW);
        for (int k = 0; k < most; k++) {
            int number = ranking.at(k);
            if (told.barAfter > 0 && wrong >= told.barAfter) {
                seconds += told.barSeconds;
                wrong = 0;
            }
            seconds += told.turns(from, number) + told.pull;
            opened += leftWeight(number) * seconds;
            rest -= leftWeight(number);
            long average = opened + rest * (seconds + told.saw);
            if (average < least) {
                least = average;
                bestTries = k + 1;
            }
            wrong++;
            from = number;
        }
        return what == 0 ? bestTries : lowest(least, whole, what - 1);
    }

    private boolean beginsWith(Tray asked) {
        int unlike = asked.unlikeOnes();
        if (ranking.size < unlike) {
            return false;
        }
        for (int k = 0; k < unlike; k++) {
            if (!asked.has(ranking.at(k))) {
                return false;
            }
        }
        return true;
    }

    /** Rows grow in few leaps, so that small sheds stay small and large ones make few rows. */
    private static int[] roomFor(int[] row, int n) {
        if (n <= row.length) {
            return row;
        }
        if (n <= 16) {
            return new int[16];
        }
        if (n <= 256) {
            return new int[256];
        }
        return new int[n <= 2048 ? 2048 : MOST_NUMBERS];
    }

    /** The text in tokens; behind the first that is none, nothing is looked at. */
    private static final class Tokens {
        static final int END = 0;
        static final int NO_TOKEN = 1;
        static final int N = 2;
        static final int OTHER_WORD = 3;
        // signs are told by their own byte, all below the first word
        static final int FIRST_WORD = 128;
        static final int WHEEL = 128;
        static final int STIFF = 129;
        static final int ROUND = 130;
        static final int CLUE = 131;
        static final int PULL = 132;
        static final int BAR = 133;
        static final int SAW = 134;
        static final int MATE = 135;
        static final int SET = 136;
        static final int AT = 137;
        static final int OR = 138;
        static final int AND = 139;
        static final int NOT = 140;
        static final int W = 141;
        static final int HAS = 142;
        static final int SUM = 143;
        static final int ALIKE = 144;
        static final int NUMBER = 145;

        private static final String SIGNS = ";:+-*()[]=<>";
        // in the order of their numbers, each in six places
        private static final String WORDS =
                "wheel stiff round clue  pull  bar   saw   mate  set   at    or    and   not   w     has   sum   alike number";
        private static final int WORD_PLACES = 6;
        private static final int MOST_DIGITS = 3;

        private final int[] kinds = new int[MOST_BYTES + 1];
        private final int[] values = new int[MOST_BYTES + 1];
        private final int[] places = new int[MOST_BYTES + 1];
        private int size;

        void split(byte[] text, int n) {
            size = 0;
            int at = 0;
            for (int i = 0; i < MOST_BYTES && at < n; i++) {
                int sign = text[at];
                if (sign == 10 || sign == 32) {
                    at++;
                } else {
                    int end = endOfRun(text, at, n);
                    int kind = kindOf(text, at, end);
                    push(kind, kind == N ? valueOf(text, at, end) : 0, at);
                    if (kind == NO_TOKEN) {
                        return;
                    }
                    at = end;
                }
            }
            push(END, 0, n);
        }

        int kindAt(int i) {
            return i >= 0 && i < size ? kinds[i] : END;
        }

        int valueAt(int i) {
            return i >= 0 && i < size ? values[i] : 0;
        }

        int placeAt(int i) {
            return i >= 0 && i < size ? places[i] : 0;
        }

        private void push(int kind, int value, int place) {
            if (size < kinds.length) {
                kinds[size] = kind;
                values[size] = value;
                places[size] = place;
                size++;
            }
        }

        private static boolean isLetter(int sign) {
            return sign >= 'a' && sign <= 'z';
        }

        private static boolean isDigit(int sign) {
            return sign >= '0' && sign <= '9';
        }

        private static int endOfRun(byte[] text, int from, int n) {
            int end = from + 1;
            if (isLetter(text[from])) {
                while (end < n && isLetter(text[end])) {
                    end++;
                }
            } else if (isDigit(text[from])) {
                while (end < n && isDigit(text[end])) {
                    end++;
                }
            }
            return end;
        }

        private static int kindOf(byte[] text, int from, int end) {
            int sign = text[from];
            if (isLetter(sign)) {
                return wordKind(text, from, end);
            }
            if (isDigit(sign)) {
                return end - from <= MOST_DIGITS ? N : NO_TOKEN;
            }
            return sign > 0 && SIGNS.indexOf((char) sign) >= 0 ? sign : NO_TOKEN;
        }

        private static int valueOf(byte[] text, int from, int end) {
            int value = 0;
            for (int i = from; i < end; i++) {
                value = value * 10 + text[i] - '0';
            }
            return value;
        }

        private static int wordKind(byte[] text, int from, int end) {
            if (end - from <= WORD_PLACES) {
                for (int word = 0; word < WORDS.length() / WORD_PLACES; word++) {
                    if (isWord(text, from, end, word)) {
                        return FIRST_WORD + word;
                    }
                }
            }
            return OTHER_WORD;
        }

        private static boolean isWord(byte[] text, int from, int end, int word) {
            for (int i = 0; i < WORD_PLACES; i++) {
                int sign = from + i < end ? text[from + i] : ' ';
                if (WORDS.charAt(word * WORD_PLACES + i) != sign) {
                    return false;
                }
            }
            return true;
        }
    }

    /** Reads tokens, each looked at once from the first on, so that the fault met is the first along the text. */
    private static final class Reader {
        private static final int CANT_STAND = 2;
        private static final int OUT_OF_BOUNDS = 3;
        private static final int TOO_MUCH = 4;
        private static final int MOST_WITHIN = 6;

        private int fault;
        private int place = NONE;
        private int at;
        private boolean wheelsEnded;
        private Tokens tokens;
        private Shed shed;
        private Clues clues;

        void readText(Tokens someTokens, Shed intoShed, Clues intoClues) {
            tokens = someTokens;
            shed = intoShed;
            clues = intoClues;
            fault = 0;
            place = NONE;
            at = 0;
            wheelsEnded = false;
            shed.clear();
            clues.clear();
            for (int i = 0; i < MOST_BYTES && fault == 0 && kind() != Tokens.END; i++) {
                if (readLine() && take(';')) {
                    shed.lines++;
                }
            }
            shed.settle();
        }

        private int kind() {
            return tokens.kindAt(at);
        }

        private boolean refuse(int why) {
            fault = tokens.kindAt(at) == Tokens.NO_TOKEN ? 1 : why;
            place = tokens.placeAt(at);
            return false;
        }

        private boolean take(int kind) {
            if (kind() != kind) {
                return refuse(CANT_STAND);
            }
            at++;
            return true;
        }

        private boolean takeIf(int kind) {
            if (kind() != kind) {
                return false;
            }
            at++;
            return true;
        }

        /** An N from low to high; NONE where it is refused. */
        private int takeN(int low, int high) {
            if (kind() != Tokens.N) {
                refuse(CANT_STAND);
                return NONE;
            }
            int value = tokens.valueAt(at);
            if (value < low || value > high) {
                refuse(OUT_OF_BOUNDS);
                return NONE;
            }
            at++;
            return value;
        }

        private boolean readLine() {
            switch (kind()) {
                case Tokens.WHEEL:
                    return readWheel();
                case Tokens.CLUE:
                    return readClue();
                case Tokens.PULL:
                    at++;
                    shed.pull = takeN(1, 60);
                    return shed.pull != NONE;
                case Tokens.BAR:
                    return readBar();
                case Tokens.SAW:
                    at++;
                    shed.saw = takeN(1, 999);
                    return shed.saw != NONE;
                case Tokens.MATE:
                    return readMate();
                case Tokens.SET:
                    shed.opens = readFigures();
                    return shed.opens != NONE;
                case Tokens.AT:
                    shed.stands = readFigures();
                    return shed.stands != NONE;
                default:
                    return refuse(CANT_STAND);
            }
        }

        private boolean readWheel() {
            if (wheelsEnded) {
                return refuse(CANT_STAND);
            }
            if (shed.wheels >= MOST_WHEELS) {
                return refuse(TOO_MUCH);
            }
            at++;
            int figures = takeN(2, MOST_FIGURES);
            if (figures == NONE) {
                return false;
            }
            int stiff = 1;
            if (takeIf(Tokens.STIFF)) {
                stiff = takeN(1, 9);
                if (stiff == NONE) {
                    return false;
                }
            }
            shed.addWheel(figures, stiff, takeIf(Tokens.ROUND) ? 1 : 0);
            return true;
        }

        private boolean readClue() {
            wheelsEnded = true;
            if (shed.clues >= MOST_CLUES) {
                return refuse(TOO_MUCH);
            }
            at++;
            int tenths = takeN(0, 10);
            if (tenths == NONE || !take(':') || !readTruth(0)) {
                return false;
            }
            shed.tenths[shed.clues] = tenths;
            shed.clues++;
            clues.endClue();
            return true;
        }

        private boolean readBar() {
            at++;
            shed.barAfter = takeN(1, 9);
            if (shed.barAfter == NONE) {
                return false;
            }
            shed.barSeconds = takeN(1, 999);
            return shed.barSeconds != NONE;
        }

        private boolean readMate() {
            if (shed.mates >= MOST_MATES) {
                return refuse(TOO_MUCH);
            }
            at++;
            int known = 0;
            for (int i = 0; i < MOST_BYTES && kind() == Tokens.N; i++) {
                int clue = takeN(0, shed.clues - 1);
                if (clue == NONE) {
                    return false;
                }
                known |= 1 << clue;
            }
            shed.knows[shed.mates] = known;
            shed.mates++;
            return true;
        }

        /** Without wheels the first figure is one that no wheel has. */
        private int readFigures() {
            wheelsEnded = true;
            at++;
            if (shed.wheels == 0) {
                return takeN(0, NONE);
            }
            int number = 0;
            for (int w = 0; w < shed.wheels; w++) {
                int figure = takeN(0, shed.figures[w] - 1);
                if (figure == NONE) {
                    return NONE;
                }
                number = number * shed.figures[w] + figure;
            }
            return number;
        }

        private boolean readTruth(int within) {
            if (!readAllOf(within)) {
                return false;
            }
            for (int i = 0; i < MOST_BYTES && takeIf(Tokens.OR); i++) {
                if (!readAllOf(within)) {
                    return false;
                }
                clues.emit(Clues.OR, 0);
            }
            return true;
        }

        private boolean readAllOf(int within) {
            if (!readUnit(within)) {
                return false;
            }
            for (int i = 0; i < MOST_BYTES && takeIf(Tokens.AND); i++) {
                if (!readUnit(within)) {
                    return false;
                }
                clues.emit(Clues.AND, 0);
            }
            return true;
        }

        private boolean readUnit(int within) {
            int kind = kind();
            if (kind != Tokens.NOT && kind != '[') {
                return readComparison(within);
            }
            if (within >= MOST_WITHIN) {
                return refuse(TOO_MUCH);
            }
            at++;
            if (kind == '[') {
                return readTruth(within + 1) && take(']');
            }
            if (!readUnit(within + 1)) {
                return false;
            }
            clues.emit(Clues.NOT, 0);
            return true;
        }

        private boolean readComparison(int within) {
            if (!readSum(within)) {
                return false;
            }
            int kind = kind();
            if (kind != '=' && kind != '<' && kind != '>') {
                return refuse(CANT_STAND);
            }
            at++;
            if (!readSum(within)) {
                return false;
            }
            clues.emit(kind == '=' ? Clues.EQUAL : kind == '<' ? Clues.LESS : Clues.MORE, 0);
            return true;
        }

        private boolean readSum(int within) {
            if (!readTerm(within)) {
                return false;
            }
            for (int i = 0; i < MOST_BYTES && (kind() == '+' || kind() == '-'); i++) {
                int operation = kind() == '+' ? Clues.PLUS : Clues.MINUS;
                at++;
                if (!readTerm(within)) {
                    return false;
                }
                clues.emit(operation, 0);
            }
            return true;
        }

        private boolean readTerm(int within) {
            if (!readAtom(within)) {
                return false;
            }
            for (int i = 0; i < MOST_BYTES && takeIf('*'); i++) {
                if (!readAtom(within)) {
                    return false;
                }
                clues.emit(Clues.TIMES, 0);
            }
            return true;
        }

        private boolean readAtom(int within) {
            switch (kind()) {
                case Tokens.N:
                    return putOperand(Clues.PUSH, takeN(0, 999));
                case Tokens.W:
                    at++;
                    return putOperand(Clues.FIGURE, takeN(0, shed.wheels - 1));
                case Tokens.HAS:
                    at++;
                    return putOperand(Clues.HAS, takeN(0, 9));
                case Tokens.SUM:
                    return readName(Clues.SUM);
                case Tokens.ALIKE:
                    return readName(Clues.ALIKE);
                case Tokens.NUMBER:
                    return readName(Clues.NUMBER);
                case '(':
                    if (within >= MOST_WITHIN) {
                        return refuse(TOO_MUCH);
                    }
                    at++;
                    return readSum(within + 1) && take(')');
                default:
                    return refuse(CANT_STAND);
            }
        }

        private boolean putOperand(int operation, int operand) {
            if (operand == NONE) {
                return false;
            }
            clues.emit(operation, operand);
            return true;
        }

        private boolean readName(int operation) {
            at++;
            clues.emit(operation, 0);
            return true;
        }
    }

    /** The clues' truths as operations on a stack, one clue's behind the other's. */
    private static final class Clues {
        static final int PUSH = 0;
        static final int FIGURE = 1;
        static final int HAS = 2;
        static final int SUM = 3;
        static final int ALIKE = 4;
        static final int NUMBER = 5;
        static final int NOT = 6;
        static final int PLUS = 7;
        static final int MINUS = 8;
        static final int TIMES = 9;
        static final int EQUAL = 10;
        static final int LESS = 11;
        static final int MORE = 12;
        static final int AND = 13;
        static final int OR = 14;

        private static final int FARTHEST = 1000000;
        // six levels keep at most three values waiting each; far below this
        private static final int STACK = 64;

        private final int[] operations = new int[MOST_BYTES];
        private final int[] operands = new int[MOST_BYTES];
        private int size;
        private final int[] ends = new int[MOST_CLUES];
        private int ended;
        private final int[] stack = new int[STACK];
        private int top;
        private final int[] shown = new int[MOST_WHEELS];
        private int number;
        private int sum;
        private int alike;
        private int seen;

        void clear() {
            size = 0;
            ended = 0;
        }

        void emit(int operation, int operand) {
            if (size < MOST_BYTES) {
                operations[size] = operation;
                operands[size] = operand;
                size++;
            }
        }

        void endClue() {
            if (ended < MOST_CLUES) {
                ends[ended] = size;
                ended++;
            }
        }

        /** The clues that hold for a number, as bits. */
        int maskFor(Shed shed, int aNumber) {
            look(shed, aNumber);
            int mask = 0;
            int from = 0;
            for (int clue = 0; clue < ended; clue++) {
                top = 0;
                for (int i = from; i < ends[clue]; i++) {
                    apply(operations[i], operands[i]);
                }
                if (pop() != 0) {
                    mask |= 1 << clue;
                }
                from = ends[clue];
            }
            return mask;
        }

        private void look(Shed shed, int aNumber) {
            number = aNumber;
            sum = 0;
            alike = 0;
            seen = 0;
            for (int w = 0; w < shed.wheels; w++) {
                shown[w] = shed.figureOf(aNumber, w);
                sum += shown[w];
                seen |= 1 << shown[w];
                for (int v = 0; v < w; v++) {
                    if (shown[v] == shown[w]) {
                        alike++;
                    }
                }
            }
        }

        private void apply(int operation, int operand) {
            switch (operation) {
                case PUSH:
                    push(operand);
                    break;
                case FIGURE:
                    push(operand >= 0 && operand < MOST_WHEELS ? shown[operand] : 0);
                    break;
                case HAS:
                    push(seen >> operand & 1);
                    break;
                case SUM:
                    push(sum);
                    break;
                case ALIKE:
                    push(alike);
                    break;
                case NUMBER:
                    push(number);
                    break;
                case NOT:
                    push(pop() == 0 ? 1 : 0);
                    break;
                default:
                    int right = pop();
                    int left = pop();
                    push(joined(operation, left, right));
            }
        }

        private static int joined(int operation, int left, int right) {
            switch (operation) {
                case PLUS:
                    return kept((long) left + right);
                case MINUS:
                    return kept((long) left - right);
                case TIMES:
                    return kept((long) left * right);
                case EQUAL:
                    return left == right ? 1 : 0;
                case LESS:
                    return left < right ? 1 : 0;
                case MORE:
                    return left > right ? 1 : 0;
                case AND:
                    return left & right;
                default:
                    return left | right;
            }
        }

        private static int kept(long value) {
            return (int) Math.max(-FARTHEST, Math.min(FARTHEST, value));
        }

        private void push(int value) {
            if (top < STACK) {
                stack[top] = value;
                top++;
            }
        }

        private int pop() {
            if (top < 1) {
                return 0;
            }
            top--;
            return stack[top];
        }
    }

    /** What a text tells. Wheels that are not told have one figure, so that all loops may go over four. */
    private static final class Shed {
        private int wheels;
        private final int[] figures = {1, 1, 1, 1};
        private final int[] stiff = {1, 1, 1, 1};
        private final int[] round = new int[MOST_WHEELS];
        private final int[] worth = {1, 1, 1, 1};
        private int total = 1;
        private int clues;
        private final int[] tenths = new int[MOST_CLUES];
        private final int[] weights = new int[MASKS];
        private int pull = 3;
        private int barAfter;
        private int barSeconds;
        private int saw;
        private int mates;
        private final int[] knows = new int[MOST_MATES];
        private int opens = NONE;
        private int stands;
        private int lines;

        Shed() {
            weights[0] = 1;
        }

        void clear() {
            wheels = 0;
            clues = 0;
            pull = 3;
            barAfter = 0;
            barSeconds = 0;
            saw = 0;
            mates = 0;
            opens = NONE;
            stands = 0;
            lines = 0;
            Arrays.fill(figures, 1);
            Arrays.fill(stiff, 1);
            Arrays.fill(round, 0);
        }

        void addWheel(int someFigures, int seconds, int isRound) {
            if (wheels < MOST_WHEELS) {
                figures[wheels] = someFigures;
                stiff[wheels] = seconds;
                round[wheels] = isRound;
                wheels++;
            }
        }

        void settle() {
            total = 1;
            for (int w = MOST_WHEELS - 1; w >= 0; w--) {
                worth[w] = total;
                total *= figures[w];
            }
            fillWeights((1 << clues) - 1, weights);
        }

        void takeFrom(Shed other) {
            wheels = other.wheels;
            total = other.total;
            clues = other.clues;
            pull = other.pull;
            barAfter = other.barAfter;
            barSeconds = other.barSeconds;
            saw = other.saw;
            mates = other.mates;
            opens = other.opens;
            stands = other.stands;
            lines = other.lines;
            System.arraycopy(other.figures, 0, figures, 0, MOST_WHEELS);
            System.arraycopy(other.stiff, 0, stiff, 0, MOST_WHEELS);
            System.arraycopy(other.round, 0, round, 0, MOST_WHEELS);
            System.arraycopy(other.worth, 0, worth, 0, MOST_WHEELS);
            System.arraycopy(other.tenths, 0, tenths, 0, MOST_CLUES);
            System.arraycopy(other.weights, 0, weights, 0, MASKS);
            System.arraycopy(other.knows, 0, knows, 0, MOST_MATES);
        }

        /** The weight by some clues alone, for each row of clues that hold. */
        void fillWeights(int known, int[] into) {
            for (int mask = 0; mask < 1 << clues && mask < into.length; mask++) {
                int weight = 1;
                for (int clue = 0; clue < clues; clue++) {
                    if ((known >> clue & 1) == 1) {
                        weight *= (mask >> clue & 1) == 1 ? tenths[clue] : 10 - tenths[clue];
                    }
                }
                into[mask] = weight;
            }
        }

        int figureOf(int number, int w) {
            if (w < 0 || w >= MOST_WHEELS || worth[w] < 1 || figures[w] < 1) {
                return 0;
            }
            return number / worth[w] % figures[w];
        }

        /** The seconds from one figure of a wheel to another. */
        int turnsOfWheel(int w, int from, int to) {
            int gap = Math.abs(from - to);
            if (round[w] == 1) {
                gap = Math.min(gap, figures[w] - gap);
            }
            return gap * stiff[w];
        }

        int turns(int from, int to) {
            int seconds = 0;
            for (int w = 0; w < wheels; w++) {
                seconds += turnsOfWheel(w, figureOf(from, w), figureOf(to, w));
            }
            return seconds;
        }

        /** On each odd sweep a wheel goes down. */
        int onTheWay(int k) {
            int number = 0;
            int sweeps = 0;
            for (int w = 0; w < wheels; w++) {
                int figure = figureOf(k, w);
                number += worth[w] * turnedIfOdd(sweeps, w, figure);
                sweeps = sweeps * figures[w] + figure;
            }
            return number;
        }

        int placeOnTheWay(int number) {
            int sweeps = 0;
            for (int w = 0; w < wheels; w++) {
                sweeps = sweeps * figures[w] + turnedIfOdd(sweeps, w, figureOf(number, w));
            }
            return sweeps;
        }

        private int turnedIfOdd(int sweeps, int w, int figure) {
            return sweeps % 2 == 1 ? figures[w] - 1 - figure : figure;
        }

        /** A wheel steps each time its worth is gone through, but for the ends of its sweeps. */
        int turnsOfTheWay(int n) {
            int seconds = 0;
            for (int w = 0; w < wheels; w++) {
                int span = worth[w] * figures[w];
                if (worth[w] > 0 && span > 0) {
                    seconds += ((n - 1) / worth[w] - (n - 1) / span) * stiff[w];
                }
            }
            return seconds;
        }
    }

    /** What was tried and felt, and how the lock is. */
    private static final class Lock {
        // a cell holds the clues that hold for its number, and these marks
        static final int TRIED = 256;
        static final int UNFELT = 512;
        static final int WEIGHTLESS = 1024;
        static final int GONE = TRIED | UNFELT | WEIGHTLESS;

        // without wheels there is one number, for which no clue holds
        private int[] cells = new int[1];
        private int size = 1;
        // the figures that each wheel may have, as bits
        private final int[] felt = new int[MOST_WHEELS];
        private int stand;
        private int seconds;
        private int wrong;
        private int tried;
        private boolean open;

        void begin(Shed shed, Clues clues) {
            size = shed.total;
            cells = roomFor(cells, size);
            for (int number = 0; number < size; number++) {
                int mask = clues.maskFor(shed, number);
                cells[number] = shed.weights[mask] > 0 ? mask : mask | WEIGHTLESS;
            }
            for (int w = 0; w < MOST_WHEELS; w++) {
                felt[w] = (1 << shed.figures[w]) - 1;
            }
            stand = shed.stands;
            seconds = 0;
            wrong = 0;
            tried = 0;
            open = false;
        }

        void takeFrom(Lock other) {
            size = other.size;
            cells = roomFor(cells, size);
            System.arraycopy(other.cells, 0, cells, 0, size);
            System.arraycopy(other.felt, 0, felt, 0, MOST_WHEELS);
            stand = other.stand;
            seconds = other.seconds;
            wrong = other.wrong;
            tried = other.tried;
            open = other.open;
        }

        int maskOf(int number) {
            return isCell(number) ? cells[number] & MASKS - 1 : 0;
        }

        boolean hasMark(int number, int marks) {
            return isCell(number) && (cells[number] & marks) != 0;
        }

        boolean isLeft(int number) {
            return isCell(number) && (cells[number] & GONE) == 0;
        }

        private boolean isCell(int number) {
            return number >= 0 && number < size;
        }

        int leftOnes() {
            int found = 0;
            for (int number = 0; number < size; number++) {
                if (isLeft(number)) {
                    found++;
                }
            }
            return found;
        }

        void attempt(Shed shed, int number, Mark mark) {
            if (!isCell(number)) {
                return;
            }
            seconds += shed.turns(stand, number) + shed.pull;
            stand = number;
            if (!hasMark(number, TRIED)) {
                cells[number] |= TRIED;
                tried++;
                mark.note(number);
            }
            if (number == shed.opens) {
                open = true;
                return;
            }
            wrong++;
            if (shed.barAfter > 0 && wrong >= shed.barAfter) {
                wrong = 0;
                seconds += shed.barSeconds;
            }
        }

        boolean touch(Shed shed, int w, int figure) {
            seconds += FEEL_SECONDS;
            boolean isThat = shed.figureOf(shed.opens, w) == figure;
            int bit = 1 << figure;
            felt[w] &= isThat ? bit : ~bit;
            markUnfelt(shed);
            return isThat;
        }

        void takeBack(Shed shed, Mark mark) {
            for (int i = 0; i < mark.noted; i++) {
                int number = mark.numbers[i];
                if (isCell(number)) {
                    cells[number] &= ~TRIED;
                    tried--;
                }
            }
            stand = mark.stand;
            seconds = mark.seconds;
            wrong = mark.wrong;
            open = mark.open;
            System.arraycopy(mark.felt, 0, felt, 0, MOST_WHEELS);
            markUnfelt(shed);
        }

        private void markUnfelt(Shed shed) {
            for (int number = 0; number < size; number++) {
                boolean agrees = true;
                for (int w = 0; w < shed.wheels && agrees; w++) {
                    agrees = (felt[w] >> shed.figureOf(number, w) & 1) == 1;
                }
                cells[number] = agrees ? cells[number] & ~UNFELT : cells[number] | UNFELT;
            }
        }
    }

    /** How the lock was ahead of a call, and which numbers the call tried first. */
    private static final class Mark {
        private final int[] numbers = new int[MOST_PLACES];
        private int noted;
        private final int[] felt = new int[MOST_WHEELS];
        private int stand;
        private int seconds;
        private int wrong;
        private boolean open;

        void take(Lock lock) {
            noted = 0;
            stand = lock.stand;
            seconds = lock.seconds;
            wrong = lock.wrong;
            open = lock.open;
            System.arraycopy(lock.felt, 0, felt, 0, MOST_WHEELS);
        }

        void note(int number) {
            if (noted < MOST_PLACES) {
                numbers[noted] = number;
                noted++;
            }
        }
    }

    /** The latest calls' marks in a ring; one place more than can be undone is free for the call under way. */
    private static final class History {
        private static final int RING = MOST_UNDONE + 1;

        private final Mark[] marks = new Mark[RING];
        private int next;
        private int size;

        History() {
            for (int i = 0; i < RING; i++) {
                marks[i] = new Mark();
            }
        }

        Mark mark(Lock lock) {
            marks[next].take(lock);
            return marks[next];
        }

        void keep() {
            next = (next + 1) % RING;
            size = Math.min(MOST_UNDONE, size + 1);
        }

        Mark latest() {
            next = (next + RING - 1) % RING;
            size = Math.max(0, size - 1);
            return marks[next];
        }

        void forget() {
            size = 0;
        }
    }

    /** Numbers by weight, the most first, of like ones the least: a number's weight goes by the clues that hold. */
    private static final class Ranking {
        private int[] row = new int[1];
        private int size;
        private final int[] counts = new int[MASKS];
        private final int[] sorted = new int[MASKS];
        private final int[] leaders = new int[MASKS];
        private final int[] cursors = new int[MASKS];

        /** Ranks those with weight and without the barred marks. */
        void rank(Lock lock, int barred, int[] weights) {
            row = roomFor(row, lock.size);
            countMasks(lock, barred, weights);
            shareOut(sortMasks(weights), weights);
            for (int number = 0; number < lock.size; number++) {
                int mask = lock.maskOf(number);
                if (weights[mask] > 0 && !lock.hasMark(number, barred)) {
                    int leader = leaders[mask];
                    row[cursors[leader]] = number;
                    cursors[leader]++;
                }
            }
        }

        int at(int k) {
            return k >= 0 && k < size ? row[k] : NONE;
        }

        private void countMasks(Lock lock, int barred, int[] weights) {
            Arrays.fill(counts, 0);
            size = 0;
            for (int number = 0; number < lock.size; number++) {
                int mask = lock.maskOf(number);
                if (weights[mask] > 0 && !lock.hasMark(number, barred)) {
                    counts[mask]++;
                    size++;
                }
            }
        }

        private int sortMasks(int[] weights) {
            int found = 0;
            for (int mask = 0; mask < MASKS; mask++) {
                if (counts[mask] > 0) {
                    int at = found;
                    while (at > 0 && weights[sorted[at - 1]] < weights[mask]) {
                        sorted[at] = sorted[at - 1];
                        at--;
                    }
                    sorted[at] = mask;
                    found++;
                }
            }
            return found;
        }

        /** Masks of one weight share one stretch of the row, so that their numbers mingle by themselves. */
        private void shareOut(int found, int[] weights) {
            int start = 0;
            int leader = 0;
            for (int i = 0; i < found; i++) {
                int mask = sorted[i];
                if (i == 0 || weights[mask] != weights[leader]) {
                    leader = mask;
                    cursors[leader] = start;
                }
                leaders[mask] = leader;
                start += counts[mask];
            }
        }
    }

    /** The row of up to eight numbers that costs least: what is still to come, by those tried and the last of them. */
    private static final class Legs {
        private final int[] numbers = new int[MOST_IN_ROW];
        private int size;
        private final int[] firstLegs = new int[MOST_IN_ROW];
        private final int[] laterLegs = new int[MOST_IN_ROW * MOST_IN_ROW];
        private final long[] factors = new long[1 << MOST_IN_ROW];
        private final long[] costs = new long[MOST_IN_ROW << MOST_IN_ROW];
        private final int[] row = new int[MOST_IN_ROW];
        private long least;

        void lay(Tray tray) {
            size = Math.min(tray.size, MOST_IN_ROW);
            for (int i = 0; i < size; i++) {
                numbers[i] = (int) tray.at(i);
            }
        }

        /** Each leg delays all that are not yet pulled: it counts by their weight. */
        void weigh(Shed shed, Lock lock) {
            layLegs(shed, lock, shed.pull);
            for (int done = 0; done < 1 << size; done++) {
                long weight = 0;
                for (int i = 0; i < size; i++) {
                    if ((done >> i & 1) == 0) {
                        weight += shed.weights[lock.maskOf(numbers[i])];
                    }
                }
                factors[done] = weight;
            }
        }

        void measure(Shed shed, Lock lock) {
            layLegs(shed, lock, 0);
            Arrays.fill(factors, 1);
        }

        void solve() {
            int full = (1 << size) - 1;
            for (int done = full; done > 0; done--) {
                for (int last = 0; last < size; last++) {
                    int next = nextBy(done, last);
                    costs[done * MOST_IN_ROW + last] = next == NONE ? 0 : costBy(done, last, next);
                }
            }
            int done = 0;
            int last = NONE;
            for (int k = 0; k < size; k++) {
                int next = nextBy(done, last);
                if (next == NONE) {
                    return;
                }
                if (k == 0) {
                    least = costBy(done, last, next);
                }
                row[k] = numbers[next];
                done |= 1 << next;
                last = next;
            }
        }

        int inRow(int k) {
            return k >= 0 && k < size ? row[k] : NONE;
        }

        private void layLegs(Shed shed, Lock lock, int pull) {
            for (int i = 0; i < size; i++) {
                firstLegs[i] = shed.turns(lock.stand, numbers[i]) + pull;
                for (int j = 0; j < size; j++) {
                    laterLegs[i * MOST_IN_ROW + j] = shed.turns(numbers[i], numbers[j]) + pull;
                }
            }
        }

        /** The first place by which the rest costs least; NONE when all are done. */
        private int nextBy(int done, int last) {
            int next = NONE;
            long fewest = 0;
            for (int i = 0; i < size; i++) {
                if ((done >> i & 1) == 0) {
                    long cost = costBy(done, last, i);
                    if (next == NONE || cost < fewest) {
                        next = i;
                        fewest = cost;
                    }
                }
            }
            return next;
        }

        private long costBy(int done, int last, int next) {
            int leg = last == NONE ? firstLegs[next] : laterLegs[last * MOST_IN_ROW + next];
            return leg * factors[done] + costs[(done | 1 << next) * MOST_IN_ROW + next];
        }
    }

    /** How many rows of numbers take so many seconds. */
    private static final class Pace {
        // two wheels of ten figures, as stiff as can be
        private static final int MOST_OF_TWO = 2 * (MOST_FIGURES - 1) * 9;
        private static final int SIDE = MOST_OF_TWO + 1;

        private int[] ways = new int[1];

        long single(Shed shed, int stand, int seconds) {
            long found = 0;
            for (int number = 0; number < shed.total; number++) {
                if (shed.turns(stand, number) == seconds) {
                    found++;
                }
            }
            return found;
        }

        /** The first two wheels' ways by the seconds of both numbers, met by what the last two leave. */
        long pairs(Shed shed, int stand, int first, int second) {
            if (ways.length < SIDE * SIDE) {
                ways = new int[SIDE * SIDE];
            }
            Arrays.fill(ways, 0);
            int upper = shed.figures[0] * shed.figures[1];
            for (int a = 0; a < upper; a++) {
                int ahead = turnsOfTwo(shed, 0, pairOf(shed, 0, stand), a);
                for (int b = 0; b < upper; b++) {
                    ways[ahead * SIDE + turnsOfTwo(shed, 0, a, b)]++;
                }
            }
            long found = 0;
            int lower = shed.figures[2] * shed.figures[3];
            for (int a = 0; a < lower; a++) {
                int firstRest = first - turnsOfTwo(shed, 2, pairOf(shed, 2, stand), a);
                for (int b = 0; b < lower; b++) {
                    found += waysOf(firstRest, second - turnsOfTwo(shed, 2, a, b));
                }
            }
            return found;
        }

        private int waysOf(int first, int second) {
            boolean within = first >= 0 && first < SIDE && second >= 0 && second < SIDE;
            return within ? ways[first * SIDE + second] : 0;
        }

        private static int pairOf(Shed shed, int w, int number) {
            return shed.figureOf(number, w) * shed.figures[w + 1] + shed.figureOf(number, w + 1);
        }

        private static int turnsOfTwo(Shed shed, int w, int from, int to) {
            int base = Math.max(1, shed.figures[w + 1]);
            return shed.turnsOfWheel(w, from / base, to / base)
                    + shed.turnsOfWheel(w + 1, from % base, to % base);
        }
    }

    /** Up to forty numbers, each cut to as many bits as its sort has. */
    private static final class Tray {
        private final long[] values = new long[MOST_PLACES];
        private int sort;
        private int size = NONE;

        boolean isMissing() {
            return size == NONE;
        }

        void lay(int aSort, int n) {
            sort = aSort;
            size = n;
            Arrays.fill(values, 0);
        }

        long at(int i) {
            return i >= 0 && i < size ? values[i] : 0;
        }

        void put(int i, long value) {
            if (i >= 0 && i < size) {
                values[i] = cut(value);
            }
        }

        boolean allWithin(int most) {
            for (int i = 0; i < size; i++) {
                if (values[i] < 0 || values[i] > most) {
                    return false;
                }
            }
            return true;
        }

        boolean has(long value) {
            return firstPlaceOf(value) < size;
        }

        int unlikeOnes() {
            int found = 0;
            for (int i = 0; i < size; i++) {
                if (firstPlaceOf(values[i]) == i) {
                    found++;
                }
            }
            return found;
        }

        private int firstPlaceOf(long value) {
            int i = 0;
            while (i < size && values[i] != value) {
                i++;
            }
            return i;
        }

        private long cut(long value) {
            switch (sort) {
                case 0:
                    return (byte) value;
                case 1:
                    return (short) value;
                case 2:
                    return (int) value;
                default:
                    return value;
            }
        }
    }
}
