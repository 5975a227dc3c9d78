/** The edges of promises 23 to 30: steps, the nearest, the way, rows of told numbers, when to saw. */
final class EdgesOfSteps {
    private static final int NONE = FourWheels.NONE;
    private static final int[] FAR = {Integer.MIN_VALUE, -2, -1, Integer.MAX_VALUE};
    private static final String FOUR = "wheel 10;wheel 10;wheel 10;wheel 10;";
    private static final String SMALL = "wheel 3;wheel 3 stiff 2 round;clue 8: has 2 = 1;clue 5: sum > 2;bar 2 30;saw 60;"
            + "mate 0;mate;set 2 0;at 0 1;";

    private final Edges e;

    EdgesOfSteps(Edges e) {
        this.e = e;
    }

    void all() {
        promise23();
        promise24();
        promises25And26();
        promise27();
        promise28();
        promise29();
        promise30();
    }

    private void promise23() {
        e.of(23, "TURNS from a NUMBER to another one.");
        FourWheels x = Told.of("wheel 10 stiff 9 round;wheel 10 stiff 2;");
        e.is("half a round", x.steps(0, 50), 45);
        e.is("less than half", x.steps(0, 40), 36);
        e.is("more than half", x.steps(0, 60), 36);
        e.is("from the last on to 0", x.steps(90, 0), 9);
        e.is("not round", x.steps(9, 0), 18);
        e.is("both, back", x.steps(0, 99), 27);
        e.is("the same", x.steps(99, 99), 0);
        e.is("without WHEELS", new FourWheels().steps(0, 0), 0);
        e.of(23, "-3.");
        for (int number : FAR) {
            e.is("steps(" + number + ", 0)", x.steps(number, 0), -3);
            e.is("steps(0, " + number + ")", x.steps(0, number), -3);
        }
        e.is("steps(100, 0)", x.steps(100, 0), -3);
        e.is("steps(0, 100)", x.steps(0, 100), -3);
        e.is("steps(100, 100)", x.steps(100, 100), -3);
    }

    private void promise24() {
        e.of(24, "The LEFT one with the fewest TURNS from how WHEELS stand, the first.");
        FourWheels x = Told.of("wheel 9 stiff 3;wheel 9;at 4 4;");
        e.is("where they stand", x.nearest(), 40);
        x.tries(40);
        e.is("like ones, the first", x.nearest(), 39);
        x.tries(39);
        e.is("from there", x.nearest(), 38);
        FourWheels round = Told.of("wheel 10 round;at 0;clue 10: w 0 > 3;");
        e.is("round", round.nearest(), 9);
        FourWheels like = Told.of("wheel 10 round;at 5;clue 10: w 0 = 2 or w 0 = 8;");
        e.is("like ones, the first", like.nearest(), 2);
        e.is("by TURNS, not by WEIGHT", Told.of("wheel 9;at 3;clue 9: w 0 = 8;").nearest(), 3);
        FourWheels open = Told.of("wheel 9;set 3;at 3;");
        open.tries(3);
        e.is("when OPEN", open.nearest(), 2);
        e.of(24, "NONE: none is LEFT.");
        e.is("none has WEIGHT", Told.of("wheel 9;clue 0: 1 = 1;").nearest(), NONE);
        FourWheels none = new FourWheels();
        e.is("without WHEELS", none.nearest(), 0);
        none.tries(0);
        e.is("all tried", none.nearest(), NONE);
    }

    private void promises25And26() {
        e.of(25, "The k-th NUMBER of THE WAY.");
        FourWheels x = Told.of("wheel 2;wheel 3;wheel 2;");
        int[] way = {0, 1, 3, 2, 4, 5, 11, 10, 8, 9, 7, 6};
        for (int k = 0; k < 12; k++) {
            e.is("through(" + k + ")", x.through(k), way[k]);
        }
        e.of(25, "-3: no such one.");
        for (int k : FAR) {
            e.is("through(" + k + ")", x.through(k), -3);
        }
        e.is("through(12)", x.through(12), -3);
        e.is("without WHEELS: through(0)", new FourWheels().through(0), 0);
        e.is("without WHEELS: through(1)", new FourWheels().through(1), -3);
        e.is("through(10000)", Told.of(FOUR).through(10000), -3);
        e.of(26, "Where a NUMBER is on THE WAY.");
        for (int k = 0; k < 12; k++) {
            e.is("along(" + way[k] + ")", x.along(way[k]), k);
        }
        FourWheels odd = Told.of("wheel 3;wheel 5;wheel 3;wheel 3;");
        FourWheels asked = Told.of("wheel 3;wheel 5;wheel 3;wheel 3;");
        for (int k = 0; k < 135; k++) {
            e.is("along(through(" + k + "))", asked.along(odd.through(k)), k);
        }
        e.is("along(9000)", Told.of(FOUR).along(9000), 9999);
        e.is("without WHEELS: along(0)", new FourWheels().along(0), 0);
        e.of(26, "-3.");
        for (int number : FAR) {
            e.is("along(" + number + ")", x.along(number), -3);
        }
        e.is("along(12)", x.along(12), -3);
        e.is("along(10000)", Told.of(FOUR).along(10000), -3);
    }

    private void promise27() {
        e.of(27, "TURNS of THE WAY's first n NUMBERS, from its first one on.");
        String[] sheds = {"wheel 2 stiff 9;wheel 3 stiff 4 round;wheel 2;", "wheel 10 stiff 3;", "wheel 2 round;wheel 2 stiff 5;wheel 2;wheel 2 stiff 7;"};
        for (String shed : sheds) {
            FourWheels x = Told.of(shed);
            int due = 0;
            for (int n = 1; n <= x.count(1); n++) {
                due += n == 1 ? 0 : x.steps(x.through(n - 2), x.through(n - 1));
                e.is(shed + " length(" + n + ")", x.length(n), due);
            }
        }
        FourWheels x = Told.of(FOUR.replace("10;", "10 stiff 9 round;"));
        e.is("of all: length(10000)", x.length(10000), 89991);
        x.tries(77);
        e.is("from its first one on, wherever they stand: length(2)", x.length(2), 9);
        e.is("length(1)", x.length(1), 0);
        e.is("without WHEELS: length(1)", new FourWheels().length(1), 0);
        e.of(27, "-3: n isn't 1 to how many there are.");
        for (int n : FAR) {
            e.is("length(" + n + ")", x.length(n), -3);
        }
        e.is("length(0)", x.length(0), -3);
        e.is("length(10001)", x.length(10001), -3);
        e.is("without WHEELS: length(2)", new FourWheels().length(2), -3);
    }

    private void promise28() {
        e.of(28, "BEST ROW, what 0: WEIGHT times SECONDS, 10 + k: the k-th NUMBER (NONE: not so many).");
        FourWheels x = Told.of(SMALL);
        Told.lay(x, 0, 4);
        // a step and 3, by 10
        e.is("one: best(0, 0)", x.best(0, 0), 40);
        e.is("one: best(0, 10)", x.best(0, 10), 4);
        e.is("one: best(0, 11)", x.best(0, 11), NONE);
        Told.lay(x, 0, 8, 7, 6, 5, 4, 3, 2, 1);
        boolean[] met = new boolean[9];
        for (int k = 0; k < 8; k++) {
            int number = (int) x.best(0, 10 + k);
            e.is("one of them, and once: best(0, " + (10 + k) + ")", number >= 1 && number <= 8 && !met[number] ? 1 : 0, 1);
            met[Math.max(0, Math.min(8, number))] = true;
        }
        FourWheels heavy = Told.of(FOUR.replace("10;", "10 stiff 9;") + "clue 10: 1 = 1;".repeat(8) + "pull 60;");
        Told.lay(heavy, 0, 9999);
        e.is("far more than an int", heavy.best(0, 0), 38400000000L);
        e.is("none by what 17", heavy.best(0, 17), NONE);
        e.of(28, "-2: the TRAY, what (10 to 17);");
        rowsRefuseSuch(x, true);
        e.of(28, "-6;");
        e.is("best(3, 0)", x.best(3, 0), -6);
        e.is("best(3, 17)", x.best(3, 17), -6);
        e.of(28, "-4: not 1 to 8;");
        rowsRefuseMany(x, true);
        e.of(28, "-3: one is no NUMBER, two are alike.");
        rowsRefuseNumbers(x, true);
    }

    private void promise29() {
        e.of(29, "SHORTEST, what 0: TURNS, 10 + k: the k-th NUMBER.");
        FourWheels x = Told.of(SMALL);
        Told.lay(x, 0, 1);
        e.is("where they stand: shortest(0, 0)", x.shortest(0, 0), 0);
        e.is("one: shortest(0, 10)", x.shortest(0, 10), 1);
        Told.lay(x, 0, 8, 4, 7);
        // 1 is (0, 1): to 4 1, to 7 1, to 8 2
        e.is("shortest(0, 0)", x.shortest(0, 0), 4);
        e.is("shortest(0, 10)", x.shortest(0, 10), 4);
        e.is("shortest(0, 11)", x.shortest(0, 11), 7);
        e.is("shortest(0, 12)", x.shortest(0, 12), 8);
        e.of(29, "Likewise.");
        e.is("not so many: shortest(0, 13)", x.shortest(0, 13), NONE);
        e.is("not so many: shortest(0, 17)", x.shortest(0, 17), NONE);
        rowsRefuseSuch(x, false);
        e.is("shortest(3, 0)", x.shortest(3, 0), -6);
        e.is("shortest(3, 17)", x.shortest(3, 17), -6);
        rowsRefuseMany(x, false);
        rowsRefuseNumbers(x, false);
    }

    private static long row(FourWheels x, boolean best, int tray, int what) {
        return best ? x.best(tray, what) : x.shortest(tray, what);
    }

    private void rowsRefuseSuch(FourWheels x, boolean best) {
        for (int at : FAR) {
            e.is("tray " + at, row(x, best, at, 0), -2);
            e.is("what " + at, row(x, best, 0, at), -2);
            e.is("a missing tray, what " + at, row(x, best, 3, at), -2);
        }
        e.is("tray 4", row(x, best, 4, 0), -2);
        for (int what : new int[] {1, 2, 9, 18, 19}) {
            e.is("what " + what, row(x, best, 0, what), -2);
        }
    }

    private void rowsRefuseMany(FourWheels x, boolean best) {
        for (int n : new int[] {0, 9, 10, 40}) {
            x.numbers(1, 2, n);
            for (int what : new int[] {0, 10, 17}) {
                e.is("so many, all alike: " + n, row(x, best, 1, what), -4);
            }
            e.is("so many, what 18: " + n, row(x, best, 1, 18), -2);
        }
        Told.lay(x, 1, 0, 1, 2, 3, 4, 5, 6, 7);
        e.is("eight", row(x, best, 1, 0) > 0 ? 1 : 0, 1);
        Told.lay(x, 1, 0, 1, 2, 3, 4, 5, 6, 7, 8);
        e.is("nine", row(x, best, 1, 0), -4);
    }

    private void rowsRefuseNumbers(FourWheels x, boolean best) {
        long[][] wrong = {{9}, {-1}, {0, 9}, {9, 0}, {0, 1, 2, 3, 4, 5, 6, -1}, {0, 0}, {1, 0, 1}, {0, 1, 2, 3, 4, 5, 6, 0}, {0, 1, 2, 3, 4, 5, 6, 6},
            {Integer.MAX_VALUE}, {Integer.MIN_VALUE}};
        for (long[] numbers : wrong) {
            Told.lay(x, 1, numbers);
            e.is(java.util.Arrays.toString(numbers), row(x, best, 1, 0), -3);
            e.is(java.util.Arrays.toString(numbers), row(x, best, 1, 17), -3);
        }
        x.numbers(1, 3, 1);
        x.write(1, 0, 1L << 32);
        e.is("beyond an int", row(x, best, 1, 0), -3);
        Told.lay(x, 1, 8, 0);
        e.is("the last and the first", row(x, best, 1, 11) >= 0 ? 1 : 0, 1);
    }

    private void promise30() {
        e.of(30, "TO SAW, what 0: k, 1: the upper, 2: the lower number of SECONDS on the average.");
        FourWheels x = Told.of(SMALL);
        e.is("saw(0)", x.saw(0), 2);
        e.is("saw(1)", x.saw(1), 145);
        e.is("saw(2)", x.saw(2), 3);
        x.tries(1);
        // a wrong one more: a bar behind the first; 2 is 2 away: (40 * 5 + 190 * 65) / 230
        e.is("wrong ones as they are: saw(0)", x.saw(0), 1);
        e.is("wrong ones as they are: saw(1)", x.saw(1), 1255);
        e.is("wrong ones as they are: saw(2)", x.saw(2), 23);
        FourWheels one = Told.of("wheel 5;clue 10: w 0 = 4;saw 7;");
        // 4 and 3, or 7 at once
        e.is("like ones, the first: saw(0)", one.saw(0), 0);
        e.is("like ones: saw(1)", one.saw(1), 7);
        e.is("by 8: saw(0)", Told.of("wheel 5;clue 10: w 0 = 4;saw 8;").saw(0), 1);
        e.of(30, "-2;");
        FourWheels none = Told.of("wheel 2;");
        for (int what : FAR) {
            e.is("saw(" + what + ")", x.saw(what), -2);
            e.is("no saw: saw(" + what + ")", none.saw(what), -2);
        }
        e.is("saw(3)", x.saw(3), -2);
        e.of(30, "-5: no saw, none is LEFT, it is OPEN.");
        for (int what = 0; what < 3; what++) {
            e.is("no saw: saw(" + what + ")", none.saw(what), -5);
            e.is("none LEFT: saw(" + what + ")", Told.of("wheel 2;saw 9;clue 0: 1 = 1;").saw(what), -5);
        }
        x.tries(6);
        e.is("OPEN, others are left", x.left() > 0 ? 1 : 0, 1);
        for (int what = 0; what < 3; what++) {
            e.is("OPEN: saw(" + what + ")", x.saw(what), -5);
        }
        x.undo(1);
        e.is("not OPEN: saw(0)", x.saw(0), 1);
        FourWheels tried = Told.of("saw 9;");
        e.is("one left: saw(0)", tried.saw(0), 1);
        tried.tries(0);
        e.is("none left: saw(0)", tried.saw(0), -5);
    }
}
