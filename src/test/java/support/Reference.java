import java.util.ArrayDeque;
import java.util.ArrayList;
import java.util.Arrays;
import java.util.Collections;
import java.util.Comparator;
import java.util.HashSet;
import java.util.List;
import java.util.Set;
import java.util.TreeSet;
import java.util.function.ToIntFunction;
import java.util.function.ToLongFunction;
import java.math.BigInteger;

/** The document once more, written as plainly and as slowly as can be, to hold FourWheels against. */
public final class Reference {
    static final class Fault extends RuntimeException {
        private static final long serialVersionUID = 1L;
        final int kind;
        final int place;

        Fault(int kind, int place) {
            super(null, null, false, false);
            this.kind = kind;
            this.place = place;
        }
    }

    record Wheel(int figures, int stiff, boolean round) { }

    interface Truth {
        boolean of(int[] figures, int number);
    }

    interface Sum {
        long of(int[] figures, int number);
    }

    record Clue(int tenths, Truth truth) { }

    static final class Told {
        List<Wheel> wheels = new ArrayList<>();
        List<Clue> clues = new ArrayList<>();
        List<Set<Integer>> mates = new ArrayList<>();
        int pull = 3;
        int barAfter;
        int barSeconds;
        int saw;
        int[] set;
        int[] at;
        int lines;
        // the weights by all clues, and by those that each mate knows
        long[] weights;
        boolean[][] holds;

        int total() {
            int total = 1;
            for (Wheel wheel : wheels) {
                total *= wheel.figures;
            }
            return total;
        }

        int[] figures(int number) {
            int[] figures = new int[wheels.size()];
            for (int w = wheels.size() - 1; w >= 0; w--) {
                figures[w] = number % wheels.get(w).figures;
                number /= wheels.get(w).figures;
            }
            return figures;
        }

        int numberOf(int[] figures) {
            int number = 0;
            for (int w = 0; w < figures.length; w++) {
                number = number * wheels.get(w).figures + figures[w];
            }
            return number;
        }

        int turns(int from, int to) {
            int[] a = figures(from);
            int[] b = figures(to);
            int seconds = 0;
            for (int w = 0; w < a.length; w++) {
                Wheel wheel = wheels.get(w);
                int up = 0;
                for (int f = a[w]; f != b[w]; f = (f + 1) % wheel.figures) {
                    up++;
                }
                int down = wheel.figures - up;
                int steps = wheel.round ? Math.min(up, down) : Math.abs(a[w] - b[w]);
                seconds += steps * wheel.stiff;
            }
            return seconds;
        }

        void settle() {
            int total = total();
            holds = new boolean[clues.size()][total];
            weights = new long[total];
            for (int number = 0; number < total; number++) {
                int[] figures = figures(number);
                for (int c = 0; c < clues.size(); c++) {
                    holds[c][number] = clues.get(c).truth.of(figures, number);
                }
            }
            Set<Integer> all = new TreeSet<>();
            for (int c = 0; c < clues.size(); c++) {
                all.add(c);
            }
            for (int number = 0; number < total; number++) {
                weights[number] = weightBy(all, number);
            }
        }

        long weightBy(Set<Integer> known, int number) {
            long weight = 1;
            for (int c : known) {
                int tenths = clues.get(c).tenths;
                weight *= holds[c][number] ? tenths : 10 - tenths;
            }
            return weight;
        }
    }

    static final class State {
        Set<Integer> tried = new HashSet<>();
        List<int[]> felt = new ArrayList<>();
        int stand;
        int seconds;
        int wrong;
        boolean open;

        State twin() {
            State twin = new State();
            twin.tried = new HashSet<>(tried);
            twin.felt = new ArrayList<>(felt);
            twin.stand = stand;
            twin.seconds = seconds;
            twin.wrong = wrong;
            twin.open = open;
            return twin;
        }
    }

    record Token(String text, int place) { }

    static final class Parser {
        private final String text;
        private int at;
        private Token token;
        private final Told told = new Told();

        Parser(String text) {
            this.text = text;
            next();
        }

        private void next() {
            while (at < text.length() && (text.charAt(at) == '\n' || text.charAt(at) == ' ')) {
                at++;
            }
            if (at == text.length()) {
                token = new Token("", at);
                return;
            }
            int end = at;
            String rest = text.substring(at);
            java.util.regex.Matcher m = java.util.regex.Pattern.compile("^([a-z]+|[0-9]+|[;:+*()\\[\\]=<>-])", java.util.regex.Pattern.DOTALL).matcher(rest);
            if (!m.find()) {
                throw new Fault(1, at);
            }
            String found = m.group();
            if (Character.isDigit(found.charAt(0)) && found.length() > 3) {
                throw new Fault(1, at);
            }
            end = at + found.length();
            token = new Token(found, at);
            at = end;
        }

        private boolean sees(String what) {
            return token.text.equals(what);
        }

        private boolean seesN() {
            return !token.text.isEmpty() && Character.isDigit(token.text.charAt(0));
        }

        private Fault cant() {
            return new Fault(2, token.place);
        }

        private void need(String what) {
            if (!sees(what)) {
                throw cant();
            }
            next();
        }

        private int n(int low, int high) {
            if (!seesN()) {
                throw cant();
            }
            int value = Integer.parseInt(token.text);
            if (value < low || value > high) {
                throw new Fault(3, token.place);
            }
            next();
            return value;
        }

        Told parse() {
            while (!sees("")) {
                line();
                need(";");
                told.lines++;
            }
            if (told.at == null) {
                told.at = new int[told.wheels.size()];
            }
            told.settle();
            return told;
        }

        private boolean wheelLate() {
            return !told.clues.isEmpty() || told.set != null || told.at != null;
        }

        private void line() {
            int place = token.place;
            String word = token.text;
            switch (word) {
                case "wheel" -> {
                    if (wheelLate()) {
                        throw cant();
                    }
                    if (told.wheels.size() == 4) {
                        throw new Fault(4, place);
                    }
                    next();
                    int figures = n(2, 10);
                    int stiff = 1;
                    if (sees("stiff")) {
                        next();
                        stiff = n(1, 9);
                    }
                    boolean round = sees("round");
                    if (round) {
                        next();
                    }
                    told.wheels.add(new Wheel(figures, stiff, round));
                }
                case "clue" -> {
                    if (told.clues.size() == 8) {
                        throw new Fault(4, place);
                    }
                    next();
                    int tenths = n(0, 10);
                    need(":");
                    told.clues.add(new Clue(tenths, truth(0)));
                }
                case "pull" -> {
                    next();
                    told.pull = n(1, 60);
                }
                case "bar" -> {
                    next();
                    told.barAfter = n(1, 9);
                    told.barSeconds = n(1, 999);
                }
                case "saw" -> {
                    next();
                    told.saw = n(1, 999);
                }
                case "mate" -> {
                    if (told.mates.size() == 4) {
                        throw new Fault(4, place);
                    }
                    next();
                    Set<Integer> known = new TreeSet<>();
                    while (seesN()) {
                        known.add(n(0, told.clues.size() - 1));
                    }
                    told.mates.add(known);
                }
                case "set" -> told.set = row();
                case "at" -> told.at = row();
                default -> throw cant();
            }
        }

        private int[] row() {
            next();
            int[] row = new int[told.wheels.size()];
            if (row.length == 0) {
                n(0, -1);
            }
            for (int w = 0; w < row.length; w++) {
                row[w] = n(0, told.wheels.get(w).figures - 1);
            }
            return row;
        }

        private Truth truth(int depth) {
            Truth first = all(depth);
            while (sees("or")) {
                next();
                Truth left = first;
                Truth right = all(depth);
                first = (f, k) -> left.of(f, k) || right.of(f, k);
            }
            return first;
        }

        private Truth all(int depth) {
            Truth first = unit(depth);
            while (sees("and")) {
                next();
                Truth left = first;
                Truth right = unit(depth);
                first = (f, k) -> left.of(f, k) && right.of(f, k);
            }
            return first;
        }

        private void deeper(int depth) {
            if (depth == 6) {
                throw new Fault(4, token.place);
            }
            next();
        }

        private Truth unit(int depth) {
            if (sees("not")) {
                deeper(depth);
                Truth inner = unit(depth + 1);
                return (f, k) -> !inner.of(f, k);
            }
            if (sees("[")) {
                deeper(depth);
                Truth inner = truth(depth + 1);
                need("]");
                return inner;
            }
            Sum left = sum(depth);
            String sign = token.text;
            if (!sign.equals("=") && !sign.equals("<") && !sign.equals(">")) {
                throw cant();
            }
            next();
            Sum right = sum(depth);
            return (f, k) -> {
                int c = Long.compare(left.of(f, k), right.of(f, k));
                return sign.equals("=") ? c == 0 : sign.equals("<") ? c < 0 : c > 0;
            };
        }

        private static long keep(long v) {
            return v > 1000000 ? 1000000 : v < -1000000 ? -1000000 : v;
        }

        private Sum sum(int depth) {
            Sum first = term(depth);
            while (sees("+") || sees("-")) {
                boolean plus = sees("+");
                next();
                Sum left = first;
                Sum right = term(depth);
                first = plus ? (f, k) -> keep(left.of(f, k) + right.of(f, k)) : (f, k) -> keep(left.of(f, k) - right.of(f, k));
            }
            return first;
        }

        private Sum term(int depth) {
            Sum first = atom(depth);
            while (sees("*")) {
                next();
                Sum left = first;
                Sum right = atom(depth);
                first = (f, k) -> keep(left.of(f, k) * right.of(f, k));
            }
            return first;
        }

        private Sum atom(int depth) {
            if (seesN()) {
                int value = n(0, 999);
                return (f, k) -> value;
            }
            switch (token.text) {
                case "w": {
                    next();
                    int w = n(0, told.wheels.size() - 1);
                    return (f, k) -> f[w];
                }
                case "has": {
                    next();
                    int figure = n(0, 9);
                    return (f, k) -> Arrays.stream(f).anyMatch(x -> x == figure) ? 1 : 0;
                }
                case "sum":
                    next();
                    return (f, k) -> Arrays.stream(f).sum();
                case "alike":
                    next();
                    return (f, k) -> {
                        int pairs = 0;
                        for (int a = 0; a < f.length; a++) {
                            for (int b = a + 1; b < f.length; b++) {
                                pairs += f[a] == f[b] ? 1 : 0;
                            }
                        }
                        return pairs;
                    };
                case "number":
                    next();
                    return (f, k) -> k;
                case "(": {
                    deeper(depth);
                    Sum inner = sum(depth + 1);
                    need(")");
                    return inner;
                }
                default:
                    throw cant();
            }
        }
    }

    private String tape = "";
    private int fault;
    private int place = -1;
    private Told told = new Parser("").parse();
    private State now = new State();
    private final ArrayDeque<State> before = new ArrayDeque<>();
    private final long[][] trays = new long[4][];
    private final int[] sorts = new int[4];
    private final Told[] toldImages = new Told[2];
    private final State[] stateImages = new State[2];

    public int feed(int a, int b, int c, int d, int e) {
        if (tape.length() > 880) {
            return -5;
        }
        StringBuilder more = new StringBuilder(tape);
        for (int v : new int[] {a, b, c, d, e}) {
            more.append((char) (v >>> 24)).append((char) (v >>> 16 & 255)).append((char) (v >>> 8 & 255)).append((char) (v & 255));
        }
        tape = more.toString();
        return tape.length();
    }

    public int shed(int n) {
        if (n < 0 || n > tape.length()) {
            return -3;
        }
        String text = tape.substring(0, n);
        tape = "";
        fault = 0;
        place = -1;
        try {
            told = new Parser(text).parse();
        } catch (Fault f) {
            fault = f.kind;
            place = f.place;
            return -30 - fault;
        }
        now = new State();
        now.stand = told.numberOf(told.at);
        before.clear();
        return told.lines;
    }

    public int fault(int what) {
        return what == 0 ? fault : what == 1 ? place : -1;
    }

    private boolean noWheel(int w) {
        return w < 0 || w >= told.wheels.size();
    }

    private boolean noNumber(long number) {
        return number < 0 || number >= told.total();
    }

    private List<Integer> lefts() {
        List<Integer> found = new ArrayList<>();
        for (int number = 0; number < told.total(); number++) {
            if (isLeft(number)) {
                found.add(number);
            }
        }
        return found;
    }

    private boolean isLeft(int number) {
        if (told.weights[number] == 0 || now.tried.contains(number)) {
            return false;
        }
        int[] figures = told.figures(number);
        for (int[] felt : now.felt) {
            if ((figures[felt[0]] == felt[1]) != (felt[2] == 1)) {
                return false;
            }
        }
        return true;
    }

    private List<Integer> ordered() {
        List<Integer> found = lefts();
        found.sort(Comparator.comparingLong((Integer k) -> -told.weights[k]).thenComparing(k -> k));
        return found;
    }

    private List<Integer> ofMate(int m, boolean asIfUntried) {
        Set<Integer> known = told.mates.get(m);
        List<Integer> found = new ArrayList<>();
        long[] weights = new long[told.total()];
        for (int number = 0; number < told.total(); number++) {
            weights[number] = told.weightBy(known, number);
            if (weights[number] > 0 && (asIfUntried || !now.tried.contains(number))) {
                found.add(number);
            }
        }
        found.sort((a, b) -> weights[a] != weights[b] ? Long.compare(weights[b], weights[a]) : Integer.compare(a, b));
        return found;
    }

    public int wheel(int w, int what) {
        if (noWheel(w) || what < 0 || what > 4) {
            return -2;
        }
        Wheel wheel = told.wheels.get(w);
        if (what == 4) {
            Set<Integer> seen = new TreeSet<>();
            for (int number : lefts()) {
                seen.add(told.figures(number)[w]);
            }
            return seen.size() == 1 ? seen.iterator().next() : -1;
        }
        return what == 0 ? wheel.figures : what == 1 ? wheel.stiff : what == 2 ? (wheel.round ? 1 : 0) : told.figures(now.stand)[w];
    }

    public int holds(int clue, int number) {
        if (clue < 0 || clue >= told.clues.size()) {
            return -2;
        }
        return noNumber(number) ? -3 : told.holds[clue][number] ? 1 : 0;
    }

    public int figure(int number, int w) {
        return noWheel(w) ? -2 : noNumber(number) ? -3 : told.figures(number)[w];
    }

    public long likely(int number) {
        return noNumber(number) ? -3 : isLeft(number) ? told.weights[number] : 0;
    }

    public int left() {
        return lefts().size();
    }

    public long all() {
        return lefts().stream().mapToLong(k -> told.weights[k]).sum();
    }

    public int order(int k) {
        if (k < 0) {
            return -3;
        }
        List<Integer> row = ordered();
        return k < row.size() ? row.get(k) : -1;
    }

    private static long part(BigInteger upper, BigInteger lower, int what) {
        BigInteger d = upper.gcd(lower);
        return (what == 0 ? upper : lower).divide(d).longValueExact();
    }

    public long chance(int n, int what) {
        if (what != 0 && what != 1) {
            return -2;
        }
        if (n < 0) {
            return -3;
        }
        List<Integer> row = ordered();
        if (row.isEmpty()) {
            return -5;
        }
        long sum = row.stream().limit(n).mapToLong(k -> told.weights[k]).sum();
        return part(BigInteger.valueOf(sum), BigInteger.valueOf(all()), what);
    }

    public long mean(int what) {
        if (what != 0 && what != 1) {
            return -2;
        }
        List<Integer> row = ordered();
        if (row.isEmpty()) {
            return -5;
        }
        BigInteger sum = BigInteger.ZERO;
        for (int k = 0; k < row.size(); k++) {
            sum = sum.add(BigInteger.valueOf(told.weights[row.get(k)]).multiply(BigInteger.valueOf(k + 1)));
        }
        return part(sum, BigInteger.valueOf(all()), what);
    }

    public long tells(int w, int figure) {
        if (noWheel(w)) {
            return -2;
        }
        if (figure < 0 || figure >= told.wheels.get(w).figures) {
            return -3;
        }
        return lefts().stream().filter(k -> told.figures(k)[w] == figure).mapToLong(k -> told.weights[k]).sum();
    }

    public int telling() {
        List<Integer> row = lefts();
        if (row.isEmpty()) {
            return -1;
        }
        int best = -1;
        long least = Long.MAX_VALUE;
        for (int c = 0; c < told.clues.size(); c++) {
            long yes = 0;
            long no = 0;
            for (int number : row) {
                if (told.holds[c][number]) {
                    yes += told.weights[number];
                } else {
                    no += told.weights[number];
                }
            }
            if (Math.max(yes, no) < least) {
                least = Math.max(yes, no);
                best = c;
            }
        }
        return best;
    }

    public int but(int n) {
        if (n < 0 || n > 8) {
            return -3;
        }
        int found = 0;
        for (int number : lefts()) {
            int broken = 0;
            for (int c = 0; c < told.clues.size(); c++) {
                broken += told.holds[c][number] ? 0 : 1;
            }
            found += broken <= n ? 1 : 0;
        }
        return found;
    }

    private void attempt(int number) {
        now.seconds += told.turns(now.stand, number) + told.pull;
        now.stand = number;
        now.tried.add(number);
        if (told.set != null && told.numberOf(told.set) == number) {
            now.open = true;
            return;
        }
        now.wrong++;
        if (told.barAfter != 0 && now.wrong == told.barAfter) {
            now.wrong = 0;
            now.seconds += told.barSeconds;
        }
    }

    private void remember(State state) {
        before.addLast(state);
        if (before.size() > 8) {
            before.removeFirst();
        }
    }

    public int tries(int number) {
        if (noNumber(number)) {
            return -3;
        }
        if (now.open) {
            return -5;
        }
        remember(now.twin());
        attempt(number);
        return now.open ? 1 : 0;
    }

    public int feel(int w, int figure) {
        if (noWheel(w)) {
            return -2;
        }
        if (figure < 0 || figure >= told.wheels.get(w).figures) {
            return -3;
        }
        if (told.set == null) {
            return -5;
        }
        remember(now.twin());
        int is = told.set[w] == figure ? 1 : 0;
        now.seconds += 2;
        now.felt.add(new int[] {w, figure, is});
        return is;
    }

    public int undo(int n) {
        if (n < 1 || n > before.size()) {
            return -3;
        }
        for (int i = 0; i < n; i++) {
            now = before.removeLast();
        }
        return before.size();
    }

    private boolean noTray(int tray) {
        return tray < 0 || tray > 3;
    }

    private int tryAll(long[] row) {
        for (int i = 0; i < row.length; i++) {
            if (now.open || noNumber(row[i])) {
                return i;
            }
            attempt((int) row[i]);
        }
        return row.length;
    }

    public int judge(int tray, int what) {
        if (noTray(tray) || what < 0 || what > 3) {
            return -2;
        }
        if (trays[tray] == null) {
            return -6;
        }
        State real = now;
        now = real.twin();
        int done = tryAll(trays[tray]);
        int answer = what == 0 ? (done == trays[tray].length ? -1 : done) : what == 1 ? now.seconds - real.seconds
                : what == 2 ? (now.open ? 1 : 0) : lefts().size();
        now = real;
        return answer;
    }

    public int perform(int tray) {
        if (noTray(tray)) {
            return -2;
        }
        if (trays[tray] == null) {
            return -6;
        }
        State old = now.twin();
        int done = tryAll(trays[tray]);
        if (done > 0) {
            remember(old);
        }
        return done;
    }

    public int year(int seed, int times) {
        if (times < 1 || times > 30) {
            return -3;
        }
        State old = now.twin();
        int x = seed;
        int done = 0;
        for (int i = 0; i < times && !now.open; i++) {
            List<Integer> lefts = lefts();
            if (lefts.isEmpty()) {
                break;
            }
            x = 1103515245 * x + 12345;
            int way = (x >>> 16) % 3;
            if (way == 0) {
                attempt(ordered().get(0));
            } else if (way == 1) {
                x = 1103515245 * x + 12345;
                attempt(lefts.get((x >>> 16) % lefts.size()));
            } else {
                attempt(nearest());
            }
            done++;
        }
        if (done > 0) {
            remember(old);
        }
        return now.seconds - old.seconds;
    }

    public int steps(int from, int to) {
        return noNumber(from) || noNumber(to) ? -3 : told.turns(from, to);
    }

    public int nearest() {
        int best = -1;
        for (int number : lefts()) {
            if (best < 0 || told.turns(now.stand, number) < told.turns(now.stand, best)) {
                best = number;
            }
        }
        return best;
    }

    /** The way, walked step by step: the last wheel that can go on in its direction does; those behind it turn about. */
    private List<Integer> way() {
        int[] at = new int[told.wheels.size()];
        int[] step = new int[at.length];
        Arrays.fill(step, 1);
        List<Integer> way = new ArrayList<>();
        way.add(0);
        boolean going = true;
        while (going) {
            going = false;
            for (int w = at.length - 1; w >= 0; w--) {
                int to = at[w] + step[w];
                if (to >= 0 && to < told.wheels.get(w).figures) {
                    at[w] = to;
                    way.add(told.numberOf(at));
                    going = true;
                    break;
                }
                step[w] = -step[w];
            }
        }
        return way;
    }

    public int through(int k) {
        return noNumber(k) ? -3 : way().get(k);
    }

    public int along(int number) {
        return noNumber(number) ? -3 : way().indexOf(number);
    }

    public int length(int n) {
        if (n < 1 || n > told.total()) {
            return -3;
        }
        List<Integer> way = way();
        int seconds = 0;
        for (int k = 1; k < n; k++) {
            seconds += told.turns(way.get(k - 1), way.get(k));
        }
        return seconds;
    }

    private static void rowsOf(List<Integer> rest, List<Integer> row, List<List<Integer>> into) {
        if (rest.isEmpty()) {
            into.add(new ArrayList<>(row));
        }
        for (int i = 0; i < rest.size(); i++) {
            List<Integer> less = new ArrayList<>(rest);
            row.add(less.remove(i));
            rowsOf(less, row, into);
            row.remove(row.size() - 1);
        }
    }

    private long bestBy(int tray, int what, ToLongFunction<List<Integer>> cost) {
        if (noTray(tray) || what != 0 && (what < 10 || what > 17)) {
            return -2;
        }
        long[] row = trays[tray];
        if (row == null) {
            return -6;
        }
        if (row.length < 1 || row.length > 8) {
            return -4;
        }
        List<Integer> asked = new ArrayList<>();
        for (long v : row) {
            if (noNumber(v) || asked.contains((int) v)) {
                return -3;
            }
            asked.add((int) v);
        }
        List<List<Integer>> all = new ArrayList<>();
        rowsOf(asked, new ArrayList<>(), all);
        List<Integer> best = null;
        long least = Long.MAX_VALUE;
        for (List<Integer> one : all) {
            long c = cost.applyAsLong(one);
            if (c < least) {
                least = c;
                best = one;
            }
        }
        return what == 0 ? least : what - 10 < best.size() ? best.get(what - 10) : -1;
    }

    public long best(int tray, int what) {
        return bestBy(tray, what, row -> {
            long cost = 0;
            int at = now.stand;
            int seconds = 0;
            for (int number : row) {
                seconds += told.turns(at, number) + told.pull;
                at = number;
                cost += seconds * told.weights[number];
            }
            return cost;
        });
    }

    public int shortest(int tray, int what) {
        return (int) bestBy(tray, what, row -> {
            int at = now.stand;
            int seconds = 0;
            for (int number : row) {
                seconds += told.turns(at, number);
                at = number;
            }
            return seconds;
        });
    }

    public long saw(int what) {
        if (what < 0 || what > 2) {
            return -2;
        }
        List<Integer> row = ordered();
        if (told.saw == 0 || row.isEmpty() || now.open) {
            return -5;
        }
        BigInteger least = null;
        int bestK = 0;
        for (int k = 0; k <= Math.min(200, row.size()); k++) {
            BigInteger all = BigInteger.ZERO;
            // whatever opens it: how long that evening is
            for (int real = 0; real < row.size(); real++) {
                int seconds = 0;
                int at = now.stand;
                int wrong = now.wrong;
                boolean open = false;
                for (int i = 0; i < k && !open; i++) {
                    seconds += told.turns(at, row.get(i)) + told.pull;
                    at = row.get(i);
                    open = i == real;
                    if (!open) {
                        wrong++;
                        if (told.barAfter > 0 && wrong == told.barAfter) {
                            wrong = 0;
                            if (i < k - 1) {
                                seconds += told.barSeconds;
                            }
                        }
                    }
                }
                seconds += open ? 0 : told.saw;
                all = all.add(BigInteger.valueOf(seconds).multiply(BigInteger.valueOf(told.weights[row.get(real)])));
            }
            if (least == null || all.compareTo(least) < 0) {
                least = all;
                bestK = k;
            }
        }
        return what == 0 ? bestK : part(least, BigInteger.valueOf(all()), what - 1);
    }

    private boolean noMate(int m) {
        return m < 0 || m >= told.mates.size();
    }

    public int mate(int m, int k) {
        if (noMate(m)) {
            return -2;
        }
        if (k < 0) {
            return -3;
        }
        List<Integer> row = ofMate(m, false);
        return k < row.size() ? row.get(k) : -1;
    }

    private long reached(int m, int n) {
        return ofMate(m, false).stream().limit(n).filter(this::isLeft).mapToLong(k -> told.weights[k]).sum();
    }

    public long guarded(int m, int n, int what) {
        if (noMate(m) || what != 0 && what != 1) {
            return -2;
        }
        if (n < 0 || n > 10000) {
            return -3;
        }
        if (lefts().isEmpty()) {
            return -5;
        }
        return part(BigInteger.valueOf(reached(m, n)), BigInteger.valueOf(all()), what);
    }

    public int danger(int n) {
        if (n < 0 || n > 10000) {
            return -3;
        }
        if (lefts().isEmpty()) {
            return -5;
        }
        int best = -1;
        for (int m = 0; m < told.mates.size(); m++) {
            if (best < 0 || reached(m, n) > reached(best, n)) {
                best = m;
            }
        }
        return best;
    }

    public int both(int m, int n) {
        if (noMate(m) || noMate(n)) {
            return -2;
        }
        Set<Integer> first = new HashSet<>(ofMate(m, false));
        first.retainAll(ofMate(n, false));
        return first.size();
    }

    public int hidden() {
        List<Integer> row = lefts();
        if (told.mates.isEmpty() || row.isEmpty()) {
            return -1;
        }
        List<List<Integer>> mates = new ArrayList<>();
        for (int m = 0; m < told.mates.size(); m++) {
            mates.add(ofMate(m, false));
        }
        ToIntFunction<Integer> soonest = number -> mates.stream().mapToInt(r -> r.indexOf(number)).min().getAsInt();
        int best = -1;
        int latest = -1;
        for (int number : row) {
            int soon = soonest.applyAsInt(number);
            if (soon > latest) {
                latest = soon;
                best = number;
            }
        }
        return best;
    }

    public int who(int tray) {
        if (noTray(tray)) {
            return -2;
        }
        long[] row = trays[tray];
        if (row == null) {
            return -6;
        }
        if (row.length < 1 || row.length > 6) {
            return -4;
        }
        Set<Integer> asked = new HashSet<>();
        for (long v : row) {
            if (noNumber(v)) {
                return -3;
            }
            asked.add((int) v);
        }
        int bits = 0;
        for (int m = 0; m < told.mates.size(); m++) {
            List<Integer> first = ofMate(m, true);
            if (first.size() >= asked.size() && new HashSet<>(first.subList(0, asked.size())).equals(asked)) {
                bits += 1 << m;
            }
        }
        return bits;
    }

    public long rows(int tray) {
        if (noTray(tray)) {
            return -2;
        }
        long[] row = trays[tray];
        if (row == null) {
            return -6;
        }
        if (row.length < 1 || row.length > 2) {
            return -4;
        }
        for (long v : row) {
            if (v < 0 || v > 999) {
                return -3;
            }
        }
        long found = 0;
        for (int a = 0; a < told.total(); a++) {
            if (told.turns(now.stand, a) == row[0]) {
                if (row.length == 1) {
                    found++;
                } else {
                    for (int b = 0; b < told.total(); b++) {
                        found += told.turns(a, b) == row[1] ? 1 : 0;
                    }
                }
            }
        }
        return found;
    }

    public int near(int seconds) {
        return seconds < 0 ? -3 : (int) lefts().stream().filter(k -> told.turns(now.stand, k) <= seconds).count();
    }

    public int numbers(int tray, int sort, int n) {
        if (noTray(tray) || sort < 0 || sort > 3) {
            return -2;
        }
        if (n < 0 || n > 40) {
            return -3;
        }
        trays[tray] = new long[n];
        sorts[tray] = sort;
        return 0;
    }

    private void put(int tray, int i, long v) {
        int lost = 64 - (8 << sorts[tray]);
        trays[tray][i] = v << lost >> lost;
    }

    public long write(int tray, int i, long v) {
        if (noTray(tray)) {
            return -2;
        }
        if (trays[tray] == null) {
            return -6;
        }
        if (i < 0 || i >= trays[tray].length) {
            return -7;
        }
        put(tray, i, v);
        return trays[tray][i];
    }

    public int copy(int tray) {
        if (noTray(tray)) {
            return -2;
        }
        if (trays[tray] == null) {
            return -6;
        }
        List<Integer> row = ordered();
        int n = Math.min(row.size(), trays[tray].length);
        for (int i = 0; i < n; i++) {
            put(tray, i, row.get(i));
        }
        return n;
    }

    public int image(int i) {
        if (i < 0 || i > 1) {
            return -2;
        }
        toldImages[i] = told;
        stateImages[i] = now.twin();
        return 0;
    }

    public int restore(int i) {
        if (i < 0 || i > 1) {
            return -2;
        }
        if (toldImages[i] == null) {
            return -5;
        }
        told = toldImages[i];
        now = stateImages[i].twin();
        before.clear();
        return 0;
    }

    public int count(int what) {
        List<Integer> counts = List.of(told.wheels.size(), told.total(), told.clues.size(), told.mates.size(), now.seconds,
                before.size(), now.open ? 1 : 0, now.stand, tape.length(), told.lines, now.wrong, now.tried.size());
        return what >= 0 && what < counts.size() ? counts.get(what) : Collections.singletonList(-1).get(0);
    }
}
