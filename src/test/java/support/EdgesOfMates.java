import java.util.Arrays;

/** The edges of promises 31 to 38: mates, what is hidden from them, rows by seconds, what is near. */
final class EdgesOfMates {
    private static final int NONE = FourWheels.NONE;
    private static final int[] FAR = {Integer.MIN_VALUE, -2, -1, Integer.MAX_VALUE};
    private static final String FOUR = "wheel 10;wheel 10;wheel 10;wheel 10;";
    // of mate 0 the ones with a 2 are first: 2 5 6 7 8 0 1 3 4, of mate 1 all by numbers
    private static final String SMALL = "wheel 3;wheel 3 stiff 2 round;clue 8: has 2 = 1;clue 5: sum > 2;bar 2 30;saw 60;"
            + "mate 0;mate;set 2 0;at 0 1;";
    private static final String NO_MATES = "wheel 4;clue 9: w 0 = 1;";

    private final Edges e;

    EdgesOfMates(Edges e) {
        this.e = e;
    }

    void all() {
        promise31();
        promise32();
        promise33();
        promise34();
        promise35();
        promise36();
        promise36Refused();
        promise37();
        promise37Far();
        promise37Refused();
        promise38();
    }

    private void promise31() {
        e.of(31, "The k-th that a MATE would try (from 0 on).");
        FourWheels x = Told.of(SMALL);
        int[] first = {2, 5, 6, 7, 8, 0, 1, 3, 4};
        for (int k = 0; k < 9; k++) {
            e.is("mate(0, " + k + ")", x.mate(0, k), first[k]);
            e.is("mate(1, " + k + ")", x.mate(1, k), k);
        }
        x.tries(2);
        x.feel(1, 2);
        e.is("tried: mate(0, 0)", x.mate(0, 0), 5);
        e.is("whatever was felt: mate(1, 2)", x.mate(1, 2), 3);
        x.tries(6);
        e.is("when OPEN: mate(0, 1)", x.mate(0, 1), 7);
        e.of(31, "NONE: not so many;");
        e.is("seven: mate(0, 6)", x.mate(0, 6), 4);
        e.is("seven: mate(0, 7)", x.mate(0, 7), NONE);
        e.is("mate(1, most)", x.mate(1, Integer.MAX_VALUE), NONE);
        FourWheels all = Told.of(FOUR + "mate;");
        e.is("mate(0, 9999)", all.mate(0, 9999), 9999);
        e.is("mate(0, 10000)", all.mate(0, 10000), NONE);
        FourWheels none = Told.of("clue 0: 1 = 1;mate 0;mate;");
        e.is("it knows that none can be: mate(0, 0)", none.mate(0, 0), NONE);
        e.is("it knows nothing: mate(1, 0)", none.mate(1, 0), 0);
        e.is("it knows nothing: mate(1, 1)", none.mate(1, 1), NONE);
        e.of(31, "-2;");
        for (int m : FAR) {
            e.is("mate(" + m + ", 0)", x.mate(m, 0), -2);
            e.is("mate(" + m + ", -1)", x.mate(m, -1), -2);
        }
        e.is("mate(2, 0)", x.mate(2, 0), -2);
        e.is("mate(2, 99)", x.mate(2, 99), -2);
        e.is("mate(4, 0) of four", Told.of("mate;mate;mate;mate;").mate(4, 0), -2);
        e.of(31, "-3: k is below 0.");
        e.is("mate(0, -1)", x.mate(0, -1), -3);
        e.is("mate(1, least)", x.mate(1, Integer.MIN_VALUE), -3);
        e.is("mate(0, -1), none to try", none.mate(0, -1), -3);
    }

    private void promise32() {
        e.of(32, "GUARDED, what 0: the upper, 1: the lower number.");
        FourWheels x = Told.of(SMALL);
        int[] firsts = {0, 1, 5, 8, 9, 10, 10000};
        int[] upper = {0, 1, 5, 23, 1, 1, 1};
        int[] lower = {1, 6, 6, 24, 1, 1, 1};
        for (int i = 0; i < firsts.length; i++) {
            e.is("guarded(0, " + firsts[i] + ", 0)", x.guarded(0, firsts[i], 0), upper[i]);
            e.is("guarded(0, " + firsts[i] + ", 1)", x.guarded(0, firsts[i], 1), lower[i]);
        }
        FourWheels all = Told.of(FOUR + "mate;");
        e.is("guarded(0, 9999, 0)", all.guarded(0, 9999, 0), 9999);
        e.is("guarded(0, 9999, 1)", all.guarded(0, 9999, 1), 10000);
        e.is("guarded(0, 10000, 0)", all.guarded(0, 10000, 0), 1);
        x.tries(2);
        // 200 left; of mate 1 the first three are 0, 1, 3
        e.is("tried: guarded(1, 3, 0)", x.guarded(1, 3, 0), 3);
        e.is("tried: guarded(1, 3, 1)", x.guarded(1, 3, 1), 20);
        FourWheels other = Told.of("wheel 3;clue 10: w 0 = 2;mate;");
        e.is("those without WEIGHT count as TRIES: guarded(0, 2, 0)", other.guarded(0, 2, 0), 0);
        e.is("those without WEIGHT count as TRIES: guarded(0, 2, 1)", other.guarded(0, 2, 1), 1);
        e.is("guarded(0, 3, 0)", other.guarded(0, 3, 0), 1);
        e.of(32, "-2: the MATE, what;");
        FourWheels none = Told.of("wheel 2;clue 0: 1 = 1;mate;");
        for (int at : FAR) {
            e.is("guarded(" + at + ", 1, 0)", x.guarded(at, 1, 0), -2);
            e.is("guarded(0, 1, " + at + ")", x.guarded(0, 1, at), -2);
            e.is("guarded(0, -1, " + at + ")", x.guarded(0, -1, at), -2);
            e.is("none left: guarded(0, 1, " + at + ")", none.guarded(0, 1, at), -2);
        }
        e.is("guarded(2, 1, 0)", x.guarded(2, 1, 0), -2);
        e.is("guarded(2, -1, 0)", x.guarded(2, -1, 0), -2);
        e.is("guarded(0, 1, 2)", x.guarded(0, 1, 2), -2);
        e.of(32, "-3: n isn't 0 to 10,000;");
        for (int n : FAR) {
            e.is("guarded(0, " + n + ", 0)", x.guarded(0, n, 0), -3);
            e.is("none left: guarded(0, " + n + ", 1)", none.guarded(0, n, 1), -3);
        }
        e.is("guarded(0, 10001, 0)", x.guarded(0, 10001, 0), -3);
        e.of(32, "-5: none is LEFT.");
        e.is("guarded(0, 0, 0)", none.guarded(0, 0, 0), -5);
        e.is("guarded(0, 10000, 1)", none.guarded(0, 10000, 1), -5);
    }

    private void promise33() {
        e.of(33, "The MATE who opens it likeliest in n TRIES, the first.");
        FourWheels x = Told.of("wheel 4;clue 8: w 0 = 3;clue 10: w 0 > 0;mate;mate 0;mate 1;mate 0;");
        // 1, 2 weigh 20, 3 80 of 120; 0 1 2 3, 3 0 1 2, 1 2 3, 3 0 1 2
        int[] due = {0, 1, 1, 2, 0, 0};
        for (int n = 0; n < due.length; n++) {
            e.is("danger(" + n + ")", x.danger(n), due[n]);
        }
        e.is("danger(10000)", x.danger(10000), 0);
        x.tries(3);
        e.is("untried ones: danger(1)", x.danger(1), 2);
        FourWheels four = Told.of("wheel 4;clue 8: w 0 = 3;mate;mate;mate;mate 0;");
        e.is("the last of four", four.danger(1), 3);
        e.is("like ones, the first", four.danger(0), 0);
        e.of(33, "NONE: no MATES;");
        e.is("danger(0)", Told.of(NO_MATES).danger(0), NONE);
        e.is("danger(10000)", Told.of(NO_MATES).danger(10000), NONE);
        e.is("no WHEELS", new FourWheels().danger(1), NONE);
        e.of(33, "-3;");
        for (int n : FAR) {
            e.is("danger(" + n + ")", x.danger(n), -3);
            e.is("no MATES: danger(" + n + ")", Told.of(NO_MATES).danger(n), -3);
        }
        e.is("danger(10001)", x.danger(10001), -3);
        e.is("none left: danger(-1)", Told.of("wheel 2;clue 0: 1 = 1;mate;").danger(-1), -3);
        e.of(33, "-5: none is LEFT.");
        e.is("danger(0)", Told.of("wheel 2;clue 0: 1 = 1;mate;").danger(0), -5);
        e.is("no MATES, none left: danger(0)", Told.of("wheel 2;clue 0: 1 = 1;").danger(0), -5);
        x.tries(1);
        x.tries(2);
        e.is("all tried", x.danger(1), -5);
    }

    private void promise34() {
        e.of(34, "How many untried NUMBERS two MATES hold possible together (with WEIGHT by all that one of them knows).");
        FourWheels x = Told.of("wheel 6;clue 10: w 0 > 0;clue 10: w 0 < 4;clue 6: w 0 = 5;set 2;mate 0;mate 1 2;mate;mate 2;");
        int[][] due = {{5, 3, 5, 5}, {3, 4, 4, 4}, {5, 4, 6, 6}, {5, 4, 6, 6}};
        for (int m = 0; m < 4; m++) {
            for (int n = 0; n < 4; n++) {
                e.is("both(" + m + ", " + n + ")", x.both(m, n), due[m][n]);
            }
        }
        x.feel(0, 1);
        e.is("whatever was felt", x.both(0, 1), 3);
        x.tries(3);
        e.is("untried ones", x.both(0, 1), 2);
        x.tries(5);
        e.is("one of them not possible", x.both(0, 1), 2);
        x.tries(1);
        x.tries(2);
        e.is("none", x.both(0, 1), 0);
        e.is("all of ten thousand", Told.of(FOUR + "mate;").both(0, 0), 10000);
        e.of(34, "-2.");
        for (int m : FAR) {
            e.is("both(" + m + ", 0)", x.both(m, 0), -2);
            e.is("both(0, " + m + ")", x.both(0, m), -2);
        }
        e.is("both(4, 0)", x.both(4, 0), -2);
        e.is("both(0, 4)", x.both(0, 4), -2);
        e.is("no MATES", Told.of(NO_MATES).both(0, 0), -2);
        e.is("one MATE", Told.of("mate;").both(0, 1), -2);
    }

    private void promise35() {
        e.of(35, "LEAST GUESSED.");
        FourWheels x = Told.of(SMALL);
        // the soonest of 0 to 8: 0 1 0 3 4 1 2 3 4; the first of the latest
        e.is("hidden()", x.hidden(), 4);
        x.feel(0, 1);
        e.is("4 isn't LEFT", x.hidden(), 8);
        x.tries(8);
        // 2 5 6 7 0 1 3 4, 0 1 2 3 4 5 6 7: of 0 1 2 6 7 the soonest are 0 1 0 2 3
        e.is("hidden()", x.hidden(), 7);
        x.tries(6);
        e.is("when OPEN", x.hidden(), 7);
        FourWheels knowing = Told.of("wheel 4;clue 10: w 0 < 3;mate;");
        e.is("of LEFT ones", knowing.hidden(), 2);
        e.is("the one of all", Told.of("mate;").hidden(), 0);
        e.of(35, "NONE: no MATES, none is LEFT.");
        e.is("no MATES", Told.of(NO_MATES).hidden(), NONE);
        e.is("none LEFT", Told.of("wheel 2;clue 0: 1 = 1;mate;").hidden(), NONE);
        FourWheels tried = Told.of("wheel 2;mate;");
        tried.tries(0);
        e.is("one LEFT", tried.hidden(), 1);
        tried.tries(1);
        e.is("none LEFT", tried.hidden(), NONE);
        e.is("neither", new FourWheels().hidden(), NONE);
    }

    private void who(FourWheels x, int due, long... numbers) {
        Told.lay(x, 0, numbers);
        e.is("who of " + Arrays.toString(numbers), x.who(0), due);
    }

    private void promise36() {
        e.of(36, "WHO TRIED so (as if nothing was tried), as bits.");
        FourWheels x = Told.of(SMALL);
        for (int round = 0; round < 2; round++) {
            who(x, 1, 2);
            who(x, 2, 0);
            who(x, 0, 1);
            who(x, 1, 7, 6, 5, 2);
            who(x, 2, 0, 1, 2);
            who(x, 1, 0, 2, 5, 6, 7, 8);
            who(x, 2, 5, 4, 3, 2, 1, 0);
            who(x, 1, 2, 2, 2, 2, 2, 2);
            who(x, 1, 2, 5, 2, 5, 5, 2);
            who(x, 0, 2, 5, 2, 5, 6, 8);
            x.tries(2);
            x.tries(0);
            x.feel(0, 0);
        }
        FourWheels four = Told.of("wheel 9;clue 9: w 0 = 8;mate;mate;mate;mate;");
        who(four, 15, 0);
        who(four, 15, 1, 0);
        FourWheels three = Told.of("wheel 9;clue 9: w 0 = 8;mate 0;mate 0;mate;mate 0;");
        who(three, 11, 8, 0);
        who(three, 4, 1, 0);
        who(Told.of("wheel 9;"), 0, 0);
        FourWheels few = Told.of("wheel 9;clue 10: w 0 = 8;mate 0;");
        who(few, 1, 8);
        who(few, 1, 8, 8);
        who(few, 0, 8, 0);
        who(few, 0, 0);
    }

    private void promise36Refused() {
        e.of(36, "-2: the TRAY;");
        FourWheels x = Told.of(SMALL);
        for (int tray : FAR) {
            e.is("who(" + tray + ")", x.who(tray), -2);
        }
        e.is("who(4)", x.who(4), -2);
        e.of(36, "-6;");
        e.is("who(3)", x.who(3), -6);
        e.of(36, "-4: not 1 to 6;");
        for (int n : new int[] {0, 7, 8, 40}) {
            x.numbers(0, 2, n);
            e.is("so many: " + n, x.who(0), -4);
        }
        x.numbers(0, 2, 7);
        x.write(0, 0, -1);
        e.is("seven, one is no NUMBER", x.who(0), -4);
        e.of(36, "-3: one is no NUMBER.");
        who(x, -3, 9);
        who(x, -3, -1);
        who(x, -3, 0, 1, 2, 3, 4, 9);
        who(x, -3, 9, 1, 2, 3, 4, 5);
        who(x, -3, Integer.MIN_VALUE);
        x.numbers(0, 3, 1);
        x.write(0, 0, 1L << 32);
        e.is("beyond an int", x.who(0), -3);
        who(x, 0, 8);
        FourWheels none = new FourWheels();
        who(none, -3, 1);
        who(none, 0, 0);
    }

    private void rows(FourWheels x, long due, long... seconds) {
        Told.lay(x, 0, seconds);
        e.is("rows of " + Arrays.toString(seconds), x.rows(0), due);
    }

    private void promise37() {
        e.of(37, "BY SECONDS: how many rows.");
        FourWheels x = Told.of(FOUR.replace("10;", "10 stiff 9;"));
        rows(x, 1, 0);
        rows(x, 4, 9);
        rows(x, 1, 324);
        rows(x, 0, 325);
        rows(x, 0, 1);
        rows(x, 0, 999);
        rows(x, 1, 0, 0);
        rows(x, 1, 324, 324);
        rows(x, 1, 0, 324);
        rows(x, 1, 324, 0);
        rows(x, 0, 324, 325);
        rows(x, 0, 999, 999);
        rows(x, 0, 0, 999);
        rows(x, 0, 999, 0);
        // from 0 4 ones a step away, each of them 4 up and 1 down
        rows(x, 20, 9, 9);
        FourWheels round = Told.of(FOUR.replace("10;", "10 round;"));
        // from each as many ways: of one wheel 1, 2, 2, 2, 2, 1 by 0 to 5
        rows(round, 8, 1);
        rows(round, 64, 1, 1);
        rows(round, 1, 20);
        rows(round, 1, 20, 20);
        rows(round, 8, 20, 1);
        FourWheels none = new FourWheels();
        rows(none, 1, 0);
        rows(none, 1, 0, 0);
        rows(none, 0, 1);
        rows(none, 0, 0, 1);
        FourWheels tried = Told.of("wheel 2;set 1;");
        tried.tries(1);
        tried.tries(0);
        rows(tried, 1, 0);
        rows(tried, 1, 1, 1);
    }

    /** All that four wheels of ten figures can take, wheel by wheel. */
    private void promise37Far() {
        e.of(37, "how many rows.");
        farRows("10 stiff 9;", 9, false);
        farRows("10 stiff 9 round;", 9, true);
        farRows("10;", 1, false);
    }

    private void farRows(String kind, int stiff, boolean round) {
        String shed = "wheel 10;".repeat(4).replace("10;", kind);
        long[][] ways = {{1}};
        for (int w = 0; w < 4; w++) {
            ways = withAnotherWheel(ways, round);
        }
        FourWheels x = null;
        int asked = 0;
        for (int first = 0; first < 340; first++) {
            for (int second : new int[] {0, stiff, 19 * stiff, first, 999}) {
                if (asked % 100 == 0) {
                    x = Told.of(shed);
                }
                asked++;
                boolean can = first % stiff == 0 && second % stiff == 0 && first / stiff < ways.length && second / stiff < ways.length;
                rows(x, can ? ways[first / stiff][second / stiff] : 0, first, second);
            }
        }
    }

    private static long[][] withAnotherWheel(long[][] ways, boolean round) {
        long[][] more = new long[ways.length + 9][ways.length + 9];
        for (int a = 0; a < 10; a++) {
            for (int b = 0; b < 10; b++) {
                int first = round ? Math.min(a, 10 - a) : a;
                int second = round ? Math.min(Math.abs(a - b), 10 - Math.abs(a - b)) : Math.abs(a - b);
                for (int i = 0; i < ways.length; i++) {
                    for (int j = 0; j < ways.length; j++) {
                        more[i + first][j + second] += ways[i][j];
                    }
                }
            }
        }
        return more;
    }

    private void promise37Refused() {
        e.of(37, "-2: the TRAY;");
        FourWheels x = Told.of(SMALL);
        for (int tray : FAR) {
            e.is("rows(" + tray + ")", x.rows(tray), -2);
        }
        e.is("rows(4)", x.rows(4), -2);
        e.of(37, "-6;");
        e.is("rows(3)", x.rows(3), -6);
        e.of(37, "-4: not 1 or 2;");
        for (int n : new int[] {0, 3, 4, 40}) {
            x.numbers(0, 2, n);
            e.is("so many: " + n, x.rows(0), -4);
        }
        rows(x, -4, -1, 1000, 0);
        e.of(37, "-3: one is not 0 to 999.");
        rows(x, -3, -1);
        rows(x, -3, 1000);
        rows(x, -3, 0, 1000);
        rows(x, -3, 1000, 0);
        rows(x, -3, 0, -1);
        rows(x, -3, -1, 0);
        rows(x, -3, Integer.MIN_VALUE, 0);
        x.numbers(0, 3, 2);
        x.write(0, 1, 1L << 32);
        e.is("beyond an int", x.rows(0), -3);
        rows(x, 0, 999);
        rows(x, 1, 0);
    }

    private void promise38() {
        e.of(38, "How many LEFT ones are so many SECONDS of TURNS or fewer from how WHEELS stand.");
        FourWheels x = Told.of("wheel 5 stiff 2;wheel 5 round;at 2 2;clue 10: number > 0;");
        // by the first wheel 0 1, 2 2, 4 2; by the other 0 1, 1 2, 2 2; 0 itself, 4 + 2 away, has no WEIGHT
        int[] due = {1, 3, 7, 11, 17, 21, 24};
        for (int seconds = 0; seconds < due.length; seconds++) {
            e.is("near(" + seconds + ")", x.near(seconds), due[seconds]);
        }
        e.is("near(most)", x.near(Integer.MAX_VALUE), 24);
        x.tries(12);
        e.is("one tried: near(0)", x.near(0), 0);
        e.is("one tried: near(1)", x.near(1), 2);
        x.tries(13);
        e.is("from there: near(0)", x.near(0), 0);
        e.is("from there: near(1)", x.near(1), 1);
        e.is("none left", Told.of("wheel 2;clue 0: 1 = 1;").near(9), 0);
        e.is("no WHEELS", new FourWheels().near(0), 1);
        e.of(38, "-3: it is below 0.");
        e.is("near(-1)", x.near(-1), -3);
        e.is("near(least)", x.near(Integer.MIN_VALUE), -3);
        e.is("none left: near(-1)", Told.of("wheel 2;clue 0: 1 = 1;").near(-1), -3);
    }
}
