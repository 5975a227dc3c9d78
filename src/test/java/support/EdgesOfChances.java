/** The edges of promises 8 to 16: how likely numbers are, and what clues tell. */
final class EdgesOfChances {
    private static final int NONE = FourWheels.NONE;
    private static final int[] FAR = {Integer.MIN_VALUE, -2, -1, Integer.MAX_VALUE};
    private static final String FOUR = "wheel 10;wheel 10;wheel 10;wheel 10;";
    private static final String NONE_LEFT = "wheel 3;clue 10: 1 = 2;";

    private final Edges e;

    EdgesOfChances(Edges e) {
        this.e = e;
    }

    void all() {
        promise8();
        promises9And10();
        promise11();
        promise12();
        promise13();
        promise14();
        promise15();
        promise16();
    }

    private void promise8() {
        e.of(8, "WEIGHT of a NUMBER; 0: it isn't LEFT.");
        FourWheels x = Told.of("wheel 2;wheel 3;clue 7: w 1 = 2;clue 10: number > 0;set 1 2;");
        int[] due = {0, 30, 70, 30, 30, 70};
        for (int number = 0; number < 6; number++) {
            e.is("likely(" + number + ")", x.likely(number), due[number]);
        }
        x.tries(2);
        e.is("tried: likely(2)", x.likely(2), 0);
        x.feel(0, 0);
        e.is("not that figure: likely(1)", x.likely(1), 0);
        e.is("the others: likely(3)", x.likely(3), 30);
        x.feel(1, 2);
        e.is("another figure: likely(3)", x.likely(3), 0);
        e.is("that figure: likely(5)", x.likely(5), 70);
        x.tries(5);
        e.is("what opened it: likely(5)", x.likely(5), 0);
        x.undo(4);
        for (int number = 0; number < 6; number++) {
            e.is("undone: likely(" + number + ")", x.likely(number), due[number]);
        }
        e.of(8, "-3.");
        for (int number : FAR) {
            e.is("likely(" + number + ")", x.likely(number), -3);
        }
        e.is("likely(6)", x.likely(6), -3);
        e.is("the last of all", Told.of(FOUR).likely(9999), 1);
        e.is("behind it", Told.of(FOUR).likely(10000), -3);
    }

    private void promises9And10() {
        e.of(9, "How many are LEFT.");
        FourWheels x = Told.of("wheel 3;clue 10: w 0 > 0;");
        e.is("left()", x.left(), 2);
        x.tries(0);
        e.is("one without weight was tried", x.left(), 2);
        x.tries(1);
        x.tries(1);
        e.is("one tried twice", x.left(), 1);
        x.tries(2);
        e.is("all tried", x.left(), 0);
        e.is("none from the first on", Told.of(NONE_LEFT).left(), 0);
        e.is("without WHEELS", new FourWheels().left(), 1);
        e.is("ten thousand", Told.of(FOUR).left(), 10000);
        e.of(10, "WEIGHT of all LEFT.");
        FourWheels y = Told.of("wheel 3;clue 4: w 0 = 0;clue 10: w 0 < 2;");
        e.is("40 and 60", y.all(), 100);
        y.tries(2);
        e.is("one without weight was tried", y.all(), 100);
        y.tries(0);
        e.is("60", y.all(), 60);
        y.tries(1);
        e.is("none", y.all(), 0);
        e.is("none from the first on", Told.of(NONE_LEFT).all(), 0);
        e.is("without WHEELS", new FourWheels().all(), 1);
        e.is("more than an int", Told.of(FOUR + "clue 10: 1 = 1;".repeat(8)).all(), 1000000000000L);
    }

    private void promise11() {
        e.of(11, "The k-th in ORDER (from 0 on).");
        FourWheels x = Told.of("wheel 3;clue 6: w 0 = 1;");
        e.is("order(0)", x.order(0), 1);
        e.is("order(1)", x.order(1), 0);
        e.is("order(2)", x.order(2), 2);
        e.is("the last of all", Told.of(FOUR).order(9999), 9999);
        e.of(11, "NONE: not so many;");
        e.is("order(3)", x.order(3), NONE);
        e.is("order(most)", x.order(Integer.MAX_VALUE), NONE);
        x.tries(0);
        e.is("one tried: order(1)", x.order(1), 2);
        e.is("one tried: order(2)", x.order(2), NONE);
        e.is("none left: order(0)", Told.of(NONE_LEFT).order(0), NONE);
        e.is("behind all", Told.of(FOUR).order(10000), NONE);
        e.of(11, "-3: k is below 0.");
        e.is("order(-1)", x.order(-1), -3);
        e.is("order(least)", x.order(Integer.MIN_VALUE), -3);
        e.is("none left: order(-1)", Told.of(NONE_LEFT).order(-1), -3);
    }

    private void promise12() {
        e.of(12, "CHANCE that it is one of the first n in ORDER, what 0: the upper, 1: the lower number.");
        FourWheels x = Told.of("wheel 4;clue 8: w 0 = 2;");
        // 2: 8, the others 2 of 14
        int[] upper = {0, 4, 5, 6, 1, 1, 1};
        int[] lower = {1, 7, 7, 7, 1, 1, 1};
        int[] firsts = {0, 1, 2, 3, 4, 5, Integer.MAX_VALUE};
        for (int i = 0; i < firsts.length; i++) {
            e.is("chance(" + firsts[i] + ", 0)", x.chance(firsts[i], 0), upper[i]);
            e.is("chance(" + firsts[i] + ", 1)", x.chance(firsts[i], 1), lower[i]);
        }
        e.of(12, "-2;");
        for (int what : FAR) {
            e.is("chance(1, " + what + ")", x.chance(1, what), -2);
        }
        e.is("chance(1, 2)", x.chance(1, 2), -2);
        e.is("chance(-1, 2)", x.chance(-1, 2), -2);
        FourWheels none = Told.of(NONE_LEFT);
        e.is("none left: chance(1, 2)", none.chance(1, 2), -2);
        e.of(12, "-3: n is below 0;");
        e.is("chance(-1, 0)", x.chance(-1, 0), -3);
        e.is("chance(least, 1)", x.chance(Integer.MIN_VALUE, 1), -3);
        e.is("none left: chance(-1, 0)", none.chance(-1, 0), -3);
        e.of(12, "-5: none is LEFT.");
        e.is("chance(0, 0)", none.chance(0, 0), -5);
        e.is("chance(1, 1)", none.chance(1, 1), -5);
    }

    private void promise13() {
        e.of(13, "MEAN, what 0: the upper, 1: the lower number.");
        FourWheels x = Told.of("wheel 4;clue 8: w 0 = 2;");
        // 8 + 2 * (2 + 3 + 4) of 14
        e.is("mean(0)", x.mean(0), 13);
        e.is("mean(1)", x.mean(1), 7);
        x.tries(0);
        x.tries(1);
        x.tries(3);
        e.is("one left: mean(0)", x.mean(0), 1);
        e.is("one left: mean(1)", x.mean(1), 1);
        FourWheels far = Told.of(FOUR + "clue 10: 1 = 1;".repeat(8));
        e.is("far more than an int: mean(0)", far.mean(0), 10001);
        e.is("far more than an int: mean(1)", far.mean(1), 2);
        e.of(13, "-2;");
        FourWheels none = Told.of(NONE_LEFT);
        for (int what : FAR) {
            e.is("mean(" + what + ")", x.mean(what), -2);
            e.is("none left: mean(" + what + ")", none.mean(what), -2);
        }
        e.is("mean(2)", x.mean(2), -2);
        e.of(13, "-5: none is LEFT.");
        e.is("mean(0)", none.mean(0), -5);
        e.is("mean(1)", none.mean(1), -5);
        x.tries(2);
        e.is("all tried: mean(0)", x.mean(0), -5);
    }

    private void promise14() {
        e.of(14, "WEIGHT of all LEFT with a figure of a WHEEL.");
        FourWheels x = Told.of("wheel 2;wheel 3;clue 7: w 1 = 2;clue 10: number > 0;");
        e.is("tells(0, 0)", x.tells(0, 0), 100);
        e.is("tells(0, 1)", x.tells(0, 1), 130);
        e.is("tells(1, 0)", x.tells(1, 0), 30);
        e.is("tells(1, 2)", x.tells(1, 2), 140);
        e.is("the first NUMBER, too: tells(0, 0)", Told.of("wheel 3;").tells(0, 0), 1);
        e.is("the last NUMBER, too: tells(0, 2)", Told.of("wheel 3;").tells(0, 2), 1);
        e.is("all of a thousand", Told.of(FOUR).tells(3, 9), 1000);
        x.tries(3);
        e.is("none left with it: tells(1, 0)", x.tells(1, 0), 0);
        e.is("tells(0, 1)", x.tells(0, 1), 100);
        e.of(14, "-2: the WHEEL;");
        for (int w : FAR) {
            e.is("tells(" + w + ", 0)", x.tells(w, 0), -2);
            e.is("tells(" + w + ", 9)", x.tells(w, 9), -2);
        }
        e.is("tells(2, 0)", x.tells(2, 0), -2);
        e.is("tells(2, -1)", x.tells(2, -1), -2);
        e.of(14, "-3: the figure.");
        for (int figure : FAR) {
            e.is("tells(0, " + figure + ")", x.tells(0, figure), -3);
        }
        e.is("tells(0, 2)", x.tells(0, 2), -3);
        e.is("tells(1, 3)", x.tells(1, 3), -3);
        e.is("none left: tells(0, 0)", Told.of(NONE_LEFT).tells(0, 0), 0);
    }

    private void promise15() {
        e.of(15, "By TELLING: the CLUE.");
        e.is("the last of eight", Told.of("wheel 8;" + "clue 5: w 0 < 1;".repeat(7) + "clue 5: w 0 < 4;").telling(), 7);
        e.is("the first of eight like ones", Told.of("wheel 8;" + "clue 5: w 0 < 4;".repeat(8)).telling(), 0);
        e.is("where it holds, where it doesn't: like ones", Told.of("wheel 8;clue 5: w 0 < 3;clue 5: w 0 > 2;").telling(), 0);
        e.is("one of them", Told.of("wheel 8;clue 5: 1 = 1;").telling(), 0);
        e.of(15, "NONE: no CLUES, or none LEFT.");
        e.is("no CLUES", Told.of("wheel 8;").telling(), NONE);
        e.is("none LEFT", Told.of(NONE_LEFT).telling(), NONE);
        FourWheels x = Told.of("wheel 2;clue 5: w 0 = 1;");
        x.tries(0);
        e.is("one LEFT", x.telling(), 0);
        x.tries(1);
        e.is("none LEFT", x.telling(), NONE);
        e.is("no WHEELS, no CLUES", new FourWheels().telling(), NONE);
    }

    private void promise16() {
        e.of(16, "How many are LEFT for which all CLUES hold but at most n (0 to 8).");
        StringBuilder text = new StringBuilder("wheel 9;");
        for (int clue = 0; clue < 8; clue++) {
            text.append("clue 5: w 0 > ").append(clue).append(";");
        }
        FourWheels x = Told.of(text.toString());
        for (int n = 0; n <= 8; n++) {
            e.is("but(" + n + ")", x.but(n), n + 1);
        }
        x.tries(8);
        e.is("the one of all was tried: but(0)", x.but(0), 0);
        e.is("the one of all was tried: but(8)", x.but(8), 8);
        FourWheels none = Told.of("wheel 4;");
        e.is("no CLUES: but(0)", none.but(0), 4);
        e.is("no CLUES: but(8)", none.but(8), 4);
        e.is("without weight: but(8)", Told.of("wheel 4;clue 10: w 0 = 1;").but(8), 1);
        e.is("a CLUE of 0 tenths that doesn't hold: but(0)", Told.of("wheel 4;clue 0: w 0 = 1;").but(0), 0);
        e.is("a CLUE of 0 tenths that doesn't hold: but(1)", Told.of("wheel 4;clue 0: w 0 = 1;").but(1), 3);
        e.of(16, "-3.");
        for (int n : FAR) {
            e.is("but(" + n + ")", x.but(n), -3);
        }
        e.is("but(9)", x.but(9), -3);
        e.is("none left: but(9)", Told.of(NONE_LEFT).but(9), -3);
    }
}
