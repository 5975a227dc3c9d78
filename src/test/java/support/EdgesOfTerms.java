import java.util.ArrayList;
import java.util.Arrays;
import java.util.List;

/** The edges of numbers, clues, weights, turns, tries, rows, mates, trays, images: what stands ahead of the promises, the rest. */
final class EdgesOfTerms {
    private static final int NONE = FourWheels.NONE;
    private static final String FOUR = "wheel 10;wheel 10;wheel 10;wheel 10;";
    // nine numbers: 2, 5, 6, 7, 8 have a 2 and weigh 40, the others 10; 6 opens it, 1 is how it stands
    private static final String SMALL = "wheel 3;wheel 3 stiff 2 round;clue 8: has 2 = 1;clue 5: sum > 2;bar 2 30;saw 60;"
            + "mate 0;mate;set 2 0;at 0 1;";

    private final Edges e;

    EdgesOfTerms(Edges e) {
        this.e = e;
    }

    void all() {
        numbers();
        howMany();
        clues();
        kept();
        weights();
        turnsAndTries();
        feltAndUndone();
        fractions();
        telling();
        way();
        rowsOnTheMean();
        sawing();
        mates();
        bySeconds();
        years();
        traysAndImages();
        refused();
    }

    /** Whether a truth holds, for each number in order. */
    private void holds(String wheels, String truth, String due) {
        FourWheels x = Told.of(wheels + "clue 5:" + truth + ";");
        e.is("numbers of " + wheels, x.count(1), due.length());
        for (int number = 0; number < due.length(); number++) {
            e.is("holds(0, " + number + ") of " + truth, x.holds(0, number), due.charAt(number) - '0');
        }
    }

    private void true1(String truth) {
        holds("", truth, "1");
    }

    private void numbers() {
        e.of(0, "NUMBERS: a figure of each WHEEL, the first one the highest; a NUMBER's own number: "
                + "from 0 on in order (without WHEELS one, 0).");
        FourWheels x = Told.of("wheel 2;wheel 3;wheel 4;wheel 5;");
        int number = 0;
        for (int a = 0; a < 2; a++) {
            for (int b = 0; b < 3; b++) {
                for (int c = 0; c < 4; c += 3) {
                    for (int d = 0; d < 5; d += 4) {
                        number = ((a * 3 + b) * 4 + c) * 5 + d;
                        int[] figures = {a, b, c, d};
                        for (int w = 0; w < 4; w++) {
                            e.is("figure(" + number + ", " + w + ")", x.figure(number, w), figures[w]);
                        }
                    }
                }
            }
        }
        e.is("the last one", number, 119);
        e.is("count(1)", x.count(1), 120);
        e.is("likely(119)", x.likely(119), 1);
        e.is("likely(120)", x.likely(120), -3);
        FourWheels y = new FourWheels();
        e.is("without WHEELS: count(1)", y.count(1), 1);
        e.is("without WHEELS: likely(0)", y.likely(0), 1);
        e.is("without WHEELS: likely(1)", y.likely(1), -3);
    }

    /** One object, told sheds of ever more numbers, and fewer again. */
    private void howMany() {
        e.of(0, "from 0 on in order");
        int[][] sheds = {{2}, {3, 5}, {2, 8}, {3, 6}, {5, 5, 10}, {4, 8, 8}, {3, 9, 10}, {4, 5, 10, 10}, {4, 8, 8, 8}, {3, 7, 10, 10}, {10, 10, 10, 10}};
        for (boolean back : new boolean[] {false, true}) {
            FourWheels x = new FourWheels();
            for (int i = 0; i < sheds.length; i++) {
                int total = 1;
                StringBuilder text = new StringBuilder("mate;");
                for (int figures : sheds[back ? sheds.length - 1 - i : i]) {
                    text.append("wheel ").append(figures).append(";");
                    total *= figures;
                }
                Told.shed(x, text.toString());
                e.is("numbers", x.count(1), total);
                allOf(x, total);
                x.image(i % 2);
                x.tries(total - 1);
                x.restore(i % 2);
                allOf(x, total);
            }
        }
    }

    private void allOf(FourWheels x, int total) {
        e.is("left() of " + total, x.left(), total);
        e.is("order(the last) of " + total, x.order(total - 1), total - 1);
        e.is("order(behind it) of " + total, x.order(total), NONE);
        e.is("mate(0, the last) of " + total, x.mate(0, total - 1), total - 1);
        e.is("hidden() of " + total, x.hidden(), total - 1);
        e.is("likely(the last) of " + total, x.likely(total - 1), 1);
        e.is("along(through(the last)) of " + total, x.along(x.through(total - 1)), total - 1);
    }

    private void clues() {
        e.of(0, "A CLUE holds by its TRUTH: w N: the figure of that WHEEL,");
        holds("wheel 2;wheel 3;", "w 0 = 1", "000111");
        holds("wheel 2;wheel 3;", "w 1 = 2", "001001");
        e.of(0, "has N (0 to 9): 1 if some WHEEL has that figure,");
        holds("wheel 2;wheel 3;", "has 0 = 1", "111100");
        holds("wheel 2;wheel 3;", "has 1 = 1", "010111");
        holds("wheel 2;wheel 3;", "has 2 = 1", "001001");
        holds("wheel 2;wheel 3;", "has 9 > 0", "000000");
        holds("wheel 2;wheel 3;", "has 1 > 1", "000000");
        true1("has 0 = 0");
        FourWheels nines = Told.of(FOUR + "clue 5: has 9 = 1;clue 5: has 0 = 1;");
        e.is("a 9 in 9", nines.holds(0, 9), 1);
        e.is("a 9 in 9000", nines.holds(0, 9000), 1);
        e.is("a 9 in 8888", nines.holds(0, 8888), 0);
        e.is("a 0 in 1111", nines.holds(1, 1111), 0);
        e.is("a 0 in 999", nines.holds(1, 999), 1);
        e.of(0, "sum: of all figures,");
        holds("wheel 2;wheel 3;", "sum = 2", "001010");
        true1("sum = 0");
        FourWheels sums = Told.of(FOUR + "clue 5: sum = 36;clue 5: sum = 0;");
        e.is("36 of 9999", sums.holds(0, 9999), 1);
        e.is("36 of 9998", sums.holds(0, 9998), 0);
        e.is("0 of 0", sums.holds(1, 0), 1);
        e.of(0, "alike: how many two WHEELS have the same,");
        true1("alike = 0");
        holds("wheel 3;", "alike = 0", "111");
        holds("wheel 2;wheel 3;", "alike = 1", "100010");
        FourWheels alikes = Told.of(FOUR + "clue 5: alike = 0;clue 5: alike = 1;clue 5: alike = 2;clue 5: alike = 3;clue 5: alike = 6;");
        int[] numbers = {1234, 1231, 1221, 1211, 1111};
        for (int clue = 0; clue < 5; clue++) {
            for (int i = 0; i < 5; i++) {
                e.is("holds(" + clue + ", " + numbers[i] + ")", alikes.holds(clue, numbers[i]), clue == i ? 1 : 0);
            }
        }
        e.of(0, "number: its own number;");
        holds("wheel 2;wheel 3;", "number = 5", "000001");
        true1("number = 0");
        FourWheels last = Told.of(FOUR + "clue 5: number = 99 * 101;clue 5: number > 999 * 10;");
        e.is("9999", last.holds(0, 9999), 1);
        e.is("9998", last.holds(0, 9998), 0);
        e.is("9991", last.holds(1, 9991), 1);
        e.is("9990", last.holds(1, 9990), 0);
    }

    private void kept() {
        e.of(0, "each + - * kept from -1,000,000 to 1,000,000.");
        String million = "100 * 100 * 100";
        String oneLess = "999 * 999 + 999 + 999";
        true1(oneLess + " + 1 = " + million);
        true1(oneLess + " < " + million);
        true1(oneLess + " + 1 + 1 = " + million);
        true1(oneLess + " + 999 = " + million);
        true1(million + " + 1 = " + million);
        true1(million + " + 1 - 1 = " + oneLess);
        true1(million + " - 1 = " + oneLess);
        true1("100 * 100 * 101 = " + million);
        true1("999 * 999 * 999 * 0 = 0");
        true1("( " + million + " ) * ( " + million + " ) = " + million);
        true1("( 0 - " + million + " ) * ( " + million + " ) = 0 - " + million);
        true1("( 0 - " + million + " ) * ( 0 - " + million + " ) = " + million);
        true1("0 - " + million + " - 1 = 0 - " + million);
        true1("0 - " + million + " - 1 + 1 = 0 - 999 * 999 - 999 - 999");
        true1("0 - 999 * 999 - 999 - 999 > 0 - " + million);
        true1("0 - 999 * 999 - 999 - 999 - 1 = 0 - " + million);
        true1("0 - 100 * 100 * 101 < 1 - " + million);
        true1("( 0 - 100 ) * 100 * 101 = 0 - " + million);
        true1("1 - " + million + " = 0 - " + "( " + oneLess + " )");
        true1("( 0 - " + million + " ) - ( " + million + " ) = 0 - " + million);
        true1(million + " - ( 0 - " + million + " ) = " + million);
    }

    private void weights() {
        e.of(0, "WEIGHT of a NUMBER: for each CLUE its tenths, if it holds, else 10 less these, one times the other (1 without CLUES).");
        FourWheels x = Told.of("wheel 5;clue 0: w 0 = 0;clue 3: w 0 < 2;clue 10: w 0 < 4;");
        int[] due = {0, 300, 700, 700, 0};
        for (int number = 0; number < 5; number++) {
            e.is("likely(" + number + ")", x.likely(number), due[number]);
        }
        e.is("without CLUES", Told.of("wheel 5;").likely(4), 1);
        e.is("without WHEELS, with one", Told.of("clue 7: 1 = 2;").likely(0), 3);
        StringBuilder eight = new StringBuilder(FOUR);
        for (int i = 0; i < 8; i++) {
            eight.append("clue 10: w 0 < 9;");
        }
        FourWheels y = Told.of(eight.toString());
        e.is("eight of ten tenths", y.likely(8999), 100000000);
        e.is("eight that don't hold", y.likely(9000), 0);
        e.is("all of them", y.all(), 900000000000L);
        e.of(0, "It is LEFT, if it has WEIGHT, was not tried, and agrees with all that was FELT.");
        FourWheels z = Told.of("wheel 3;wheel 2;clue 10: number > 0;set 2 1;");
        e.is("without WEIGHT", z.likely(0), 0);
        e.is("the others", z.left(), 5);
        z.tries(1);
        e.is("tried", z.left(), 4);
        z.feel(0, 1);
        e.is("not that figure", z.left(), 2);
        e.is("2", z.likely(2), 0);
        e.is("4", z.likely(4), 10);
        z.feel(1, 1);
        e.is("that figure", z.left(), 1);
        z.tries(5);
        e.is("what opened it was tried, too", z.left(), 0);
        e.of(0, "CHANCE: its WEIGHT of the WEIGHT of all LEFT.");
        FourWheels c = Told.of("wheel 4;clue 7: w 0 = 3;");
        e.is("7 of 16", c.chance(1, 0), 7);
        e.is("7 of 16", c.chance(1, 1), 16);
        c.tries(0);
        e.is("7 of 13", c.chance(1, 1), 13);
        e.of(0, "In ORDER are LEFT ones by WEIGHT, the most first, of like ones the least.");
        FourWheels o = Told.of("wheel 6;clue 8: w 0 = 5;clue 8: w 0 = 1;clue 3: w 0 = 3;clue 10: w 0 > 0;");
        int[] order = {1, 5, 2, 4, 3, NONE};
        for (int k = 0; k < 6; k++) {
            e.is("order(" + k + ")", o.order(k), order[k]);
        }
        o.tries(1);
        e.is("a tried one isn't", o.order(0), 5);
    }

    private void turnsAndTries() {
        e.of(0, "TURNS from one NUMBER to another: SECONDS by WHEELS, each the fewest steps (round: the shorter way) times its stiffness.");
        for (int figures = 2; figures <= 10; figures++) {
            FourWheels x = Told.of("wheel " + figures + " stiff 9 round;wheel " + figures + " stiff 4;");
            for (int to = 0; to < figures; to++) {
                e.is("round, of " + figures + " to " + to, x.steps(0, to * figures), 9L * Math.min(to, figures - to));
                e.is("not round, of " + figures + " to " + to, x.steps(0, to), 4L * to);
                e.is("both, of " + figures + " from " + to, x.steps(to * figures + to, 0), 4L * to + 9L * Math.min(to, figures - to));
            }
        }
        FourWheels far = Told.of("wheel 10 stiff 9;wheel 10 stiff 9;wheel 10 stiff 9;wheel 10 stiff 9;");
        e.is("the farthest", far.steps(0, 9999), 324);
        e.is("the farthest", far.steps(9090, 909), 324);
        e.is("none", far.steps(5555, 5555), 0);
        e.of(0, "A TRY: WHEELS are turned from how they stand, it is pulled: SECONDS go by;");
        FourWheels x = Told.of("wheel 5 stiff 2;pull 7;at 4;");
        x.tries(1);
        e.is("3 steps of 2, 7", x.count(4), 13);
        e.is("stands", x.count(7), 1);
        x.tries(1);
        e.is("7 more", x.count(4), 20);
        x.tries(2);
        e.is("9 more", x.count(4), 29);
        e.of(0, "if it is what was set, it is OPEN;");
        FourWheels y = Told.of("wheel 2;wheel 2;set 0 0;at 0 0;bar 1 99;");
        e.is("0 was set", y.tries(0), 1);
        e.is("open", y.count(6), 1);
        e.is("no bar", y.count(4), 3);
        e.is("none wrong", y.count(10), 0);
        e.of(0, "else it is wrong: with a bar, behind each so many wrong ones (counted anew then) its SECONDS go by, too.");
        FourWheels z = Told.of("wheel 2;pull 1;bar 3 100;");
        int[] seconds = {1, 2, 103, 104, 105, 206, 207};
        int[] wrong = {1, 2, 0, 1, 2, 0, 1};
        for (int i = 0; i < seconds.length; i++) {
            e.is("try " + i, z.tries(0), 0);
            e.is("seconds behind it", z.count(4), seconds[i]);
            e.is("wrong ones since a bar", z.count(10), wrong[i]);
        }
        e.of(0, "When it is OPEN nothing can be tried.");
        e.is("tries(0)", y.tries(0), -5);
        e.is("tries(3)", y.tries(3), -5);
        Told.lay(y, 0, 1, 2);
        e.is("perform", y.perform(0), 0);
        e.is("year", y.year(1, 30), 0);
        e.is("seconds", y.count(4), 3);
        e.is("stands", y.count(7), 0);
        e.is("unlike ones", y.count(11), 1);
        y.undo(1);
        e.is("undone, it can be", y.tries(1), 0);
        e.of(0, "EVENINGS in a TRAY: NUMBERS, one TRY each.");
        FourWheels evenings = Told.of("wheel 4;pull 1;bar 4 50;");
        Told.lay(evenings, 0, 3, 3, 0, 3);
        e.is("all four", evenings.perform(0), 4);
        e.is("3 + 1, 1, 3 + 1, 3 + 1, 50", evenings.count(4), 63);
        e.is("unlike ones", evenings.count(11), 2);
        e.is("wrong ones", evenings.count(10), 0);
    }

    private void feltAndUndone() {
        e.of(0, "To FEEL a WHEEL at a figure: 2 SECONDS go by (it isn't turned): it is that, or is not.");
        FourWheels x = Told.of("wheel 3;wheel 3;pull 9;set 1 2;at 2 2;bar 1 9;");
        e.is("not that", x.feel(0, 0), 0);
        e.is("2 seconds", x.count(4), 2);
        e.is("it isn't turned", x.count(7), 8);
        e.is("not 0", x.left(), 6);
        e.is("again", x.feel(0, 0), 0);
        e.is("not 0", x.left(), 6);
        e.is("not that", x.feel(0, 2), 0);
        e.is("so it is 1", x.wheel(0, 4), 1);
        e.is("that", x.feel(1, 2), 1);
        e.is("not that, too", x.feel(1, 0), 0);
        e.is("10 seconds", x.count(4), 10);
        e.is("one left", x.left(), 1);
        e.is("none wrong", x.count(10), 0);
        e.of(0, "Calls that did some TRY, FEEL, YEAR can be UNDONE each as a whole, the latest first,");
        FourWheels y = Told.of("wheel 9;wheel 9;set 8 8;");
        Told.lay(y, 0, 5, 6, 7);
        Told.lay(y, 1, -1, 5);
        y.tries(1);
        y.tries(1);
        y.feel(0, 8);
        y.perform(0);
        y.year(3, 4);
        e.is("a try, another of the same, a feel, evenings, a year", y.count(5), 5);
        y.perform(1);
        y.judge(0, 1);
        y.tries(81);
        y.feel(2, 0);
        y.year(1, 0);
        y.numbers(2, 0, 1);
        y.copy(2);
        y.image(0);
        e.is("what did none doesn't count", y.count(5), 5);
        int[] tried = {4, 1, 1, 1, 0};
        for (int i = 0; i < 5; i++) {
            e.is("undo(1)", y.undo(1), 4 - i);
            e.is("unlike ones tried then, " + i, y.count(11), tried[i]);
        }
        e.is("as it was", y.left(), 81);
        e.of(0, "8 at most (eldest are forgotten):");
        FourWheels z = Told.of("wheel 10;wheel 10;");
        for (int number = 1; number <= 30; number++) {
            z.tries(number);
            e.is("behind " + number, z.count(5), Math.min(8, number));
        }
        e.is("undo(3)", z.undo(3), 5);
        e.is("unlike ones", z.count(11), 27);
        z.tries(50);
        e.is("one more", z.count(5), 6);
        e.is("undo(6)", z.undo(6), 0);
        e.is("22 can't be undone", z.count(11), 22);
        e.is("how it stands", z.count(7), 22);
        e.is("the 23rd isn't tried", z.likely(23), 1);
        e.is("the 22nd is", z.likely(22), 0);
        e.of(0, "what was tried and FELT, how WHEELS stand, SECONDS, wrong ones, whether it is OPEN.");
        FourWheels u = Told.of(SMALL);
        u.tries(8);
        u.feel(0, 0);
        String before = Look.at(u);
        u.feel(1, 0);
        u.tries(8);
        u.tries(6);
        e.is("open", u.count(6), 1);
        e.is("undo(3)", u.undo(3), 2);
        e.same("all of it", Look.at(u), before);
        u.undo(2);
        e.same("all of it", Look.at(u), Look.at(Told.of(SMALL)));
    }

    private void fractions() {
        e.of(0, "All FRACTIONS are in lowest terms (0 is 0 by 1).");
        FourWheels x = Told.of("wheel 6;mate;saw 6;clue 5: 1 = 1;");
        int[] upper = {0, 1, 1, 1, 2, 5, 1, 1};
        int[] lower = {1, 6, 3, 2, 3, 6, 1, 1};
        for (int n = 0; n < upper.length; n++) {
            e.is("chance(" + n + ", 0)", x.chance(n, 0), upper[n]);
            e.is("chance(" + n + ", 1)", x.chance(n, 1), lower[n]);
            e.is("guarded(0, " + n + ", 0)", x.guarded(0, n, 0), upper[n]);
            e.is("guarded(0, " + n + ", 1)", x.guarded(0, n, 1), lower[n]);
        }
        e.is("mean(0)", x.mean(0), 7);
        e.is("mean(1)", x.mean(1), 2);
        e.is("saw(1)", x.saw(1), 6);
        e.is("saw(2)", x.saw(2), 1);
        FourWheels y = Told.of("wheel 2;clue 10: w 0 = 1;mate;");
        e.is("a mate's 0: guarded(0, 1, 0)", y.guarded(0, 1, 0), 0);
        e.is("by 1: guarded(0, 1, 1)", y.guarded(0, 1, 1), 1);
        e.of(0, "MEAN: how many TRIES on the average, in ORDER, till it opens.");
        e.is("one left: mean(0)", y.mean(0), 1);
        e.is("one left: mean(1)", y.mean(1), 1);
        FourWheels z = Told.of("wheel 3;clue 6: w 0 = 2;");
        // 2 by 6, 0 and 1 by 4: 6 + 8 + 12 of 14
        e.is("mean(0)", z.mean(0), 13);
        e.is("mean(1)", z.mean(1), 7);
        e.is("ten thousand: mean(0)", Told.of(FOUR).mean(0), 10001);
        e.is("ten thousand: mean(1)", Told.of(FOUR).mean(1), 2);
    }

    private void telling() {
        e.of(0, "By TELLING: the CLUE by which LEFT WEIGHT parts so that the greater part is least, the first.");
        e.is("6 of 2, 6 of 3, 5 of 4", Told.of("wheel 8;clue 5: w 0 < 6;clue 5: w 0 < 5;clue 5: w 0 < 4;").telling(), 2);
        e.is("like parts, the first", Told.of("wheel 8;clue 5: w 0 < 2;clue 5: w 0 < 5;clue 5: w 0 > 4;clue 5: w 0 < 3;").telling(), 1);
        e.is("no part at all", Told.of("wheel 8;clue 5: 1 = 1;clue 5: 1 = 2;").telling(), 0);
        // by number 4 and 4, but by weight 0 to 3 are 32 of 40; 0 and 1 are 16 of 40
        e.is("by WEIGHT", Told.of("wheel 8;clue 8: w 0 < 4;clue 5: w 0 < 2;").telling(), 1);
        FourWheels x = Told.of("wheel 8;clue 5: w 0 < 4;clue 5: w 0 < 6;set 7;");
        e.is("of all", x.telling(), 0);
        for (int number = 0; number < 4; number++) {
            x.tries(number);
        }
        e.is("of LEFT ones", x.telling(), 1);
    }

    private void way() {
        e.of(0, "THE WAY through all NUMBERS: the first WHEEL goes 0 to its last; "
                + "each NUMBER is followed by one of which one WHEEL is one step on: "
                + "the last WHEEL goes up and down, up and down, each time it is at its end the one ahead of it goes a step, "
                + "as it goes up and down itself, and so on.");
        walk("wheel 7;");
        walk("wheel 2;wheel 3;");
        walk("wheel 3;wheel 2;wheel 2;");
        walk("wheel 3 round;wheel 3 round;wheel 3 round;");
        walk("wheel 2;wheel 2;wheel 2;wheel 2;");
        walk("wheel 2;wheel 4;wheel 3;wheel 2;");
        FourWheels x = Told.of("wheel 3;wheel 4;");
        int[] due = {0, 1, 2, 3, 7, 6, 5, 4, 8, 9, 10, 11};
        for (int k = 0; k < 12; k++) {
            e.is("through(" + k + ")", x.through(k), due[k]);
        }
        e.is("without WHEELS", new FourWheels().through(0), 0);
        e.is("four of ten", Told.of(FOUR).through(19), 10);
        e.is("four of ten", Told.of(FOUR).through(9999), 9000);
    }

    /** The last wheel moves whenever it can; else the next one ahead that can, the way that it goes. */
    private void walk(String wheels) {
        FourWheels x = Told.of(wheels);
        int n = x.count(0);
        int total = x.count(1);
        int[] sizes = new int[n];
        for (int w = 0; w < n; w++) {
            sizes[w] = x.wheel(w, 0);
        }
        int[] figures = new int[n];
        int[] ways = {1, 1, 1, 1};
        for (int k = 0; k < total; k++) {
            int number = 0;
            for (int w = 0; w < n; w++) {
                number = number * sizes[w] + figures[w];
            }
            e.is(wheels + " through(" + k + ")", x.through(k), number);
            e.is(wheels + " along(" + number + ")", x.along(number), k);
            int w = n - 1;
            while (w > 0 && (figures[w] + ways[w] < 0 || figures[w] + ways[w] >= sizes[w])) {
                ways[w] = -ways[w];
                w--;
            }
            figures[w] += ways[w];
        }
    }

    private void rowsOnTheMean() {
        e.of(0, "BEST ROW of NUMBERS in a TRAY (1 to 8 unlike ones): tried one behind the other from how WHEELS stand, "
                + "by TURNS and pulls alone (no bar), it opens as it is pulled: "
                + "the row by which WEIGHT times SECONDS till it is pulled, all together, is least (LEFT or not), "
                + "of like ones the first by places in the TRAY.");
        int[] none = {};
        int[] open = {5, 6};
        PlainRows.compare(e, SMALL, none, 3, 4);
        PlainRows.compare(e, SMALL, open, 3, 2, 6, 0, 5);
        PlainRows.compare(e, SMALL, none, 3, 8, 7, 6, 5, 4, 3, 2, 1);
        PlainRows.compare(e, SMALL, open, 3, 0, 1, 2, 3, 4, 5, 6, 7);
        String like = "wheel 9;at 4;pull 1;";
        PlainRows.compare(e, like, none, 1, 7, 1, 6, 2);
        PlainRows.compare(e, like, none, 1, 3, 5);
        PlainRows.compare(e, like, none, 1, 5, 3);
        PlainRows.compare(e, like, none, 1, 8, 0, 4, 2, 6);
        PlainRows.compare(e, like + "clue 10: w 0 > 8;", none, 1, 7, 0, 3);
        String round = "wheel 8 stiff 3 round;wheel 2;pull 60;clue 10: w 0 > 2;clue 3: w 1 = 0;bar 1 999;";
        PlainRows.compare(e, round, none, 60, 0, 15, 8, 4, 3, 9, 12, 1);
        PlainRows.compare(e, round, new int[] {9, 8}, 60, 8, 9, 0);
        e.of(0, "SHORTEST: by all TURNS together, likewise.");
        String far = "wheel 10 stiff 9;wheel 10 stiff 9;wheel 10 stiff 9;wheel 10 stiff 9;";
        PlainRows.compare(e, far, none, 3, 9999, 0, 9990, 9, 5555, 4444, 9090, 909);
        PlainRows.compare(e, far, new int[] {5555}, 3, 9999, 0);
        PlainRows.compare(e, far, new int[] {4444}, 3, 9999, 0);
    }

    private void sawing() {
        e.of(0, "TO SAW: TRIES in ORDER, k of them (0 to all, 200 at most), by TURNS, pulls and bars (wrong ones as they are), "
                + "then, if it isn't OPEN, sawing: the k by which SECONDS on the average are least, the first");
        for (int bar = 0; bar <= 4; bar++) {
            for (int wrong = 0; wrong <= 4; wrong++) {
                PlainSaw.compare(e, "wheel 3;wheel 4 stiff 2 round;clue 8: has 2 = 1;clue 6: sum > 2;at 1 1;", 2, bar, 13, 40, wrong);
                PlainSaw.compare(e, "wheel 9;clue 7: w 0 > 6;", 3, bar, 1, 9, wrong);
            }
        }
        String thousand = "wheel 10 round;wheel 10 round;wheel 10 round;pull 1;";
        for (int n : new int[] {199, 200, 201, 300}) {
            PlainSaw.compare(e, thousand + "clue 10: number < " + n + ";", 1, 0, 0, 999, 0);
        }
        e.is("200 at most", Told.of(thousand + "clue 10: number < 300;saw 999;").saw(0), 200);
        e.is("all", Told.of(thousand + "clue 10: number < 199;saw 999;").saw(0), 199);
        e.is("none", Told.of(thousand + "saw 1;").saw(0), 0);
        // 0: 2; 1: (1 + 3) / 2; 2: (1 + 3) / 2
        e.is("like ones, the first", Told.of("wheel 2;pull 1;saw 2;").saw(0), 0);
        e.of(0, "(SECONDS of a TRY: till it was pulled, turns and pulls of all ahead of it and bars between; a bar behind the last one counts not).");
        FourWheels x = Told.of("wheel 2;pull 1;bar 1 50;saw 3;clue 9: w 0 = 0;");
        // 0: 3; 1: (9 * 1 + 1 * 4) / 10 = 1.3, no bar ahead of the saw; 2: (9 + 53) / 10
        e.is("saw(0)", x.saw(0), 1);
        e.is("saw(1)", x.saw(1), 13);
        e.is("saw(2)", x.saw(2), 10);
        FourWheels y = Told.of("wheel 2;pull 1;bar 1 50;saw 999;clue 9: w 0 = 0;");
        // 2: (9 * 1 + 1 * (1 + 50 + 1 + 1)) / 10, none by the last one's bar
        e.is("saw(0)", y.saw(0), 2);
        e.is("saw(1)", y.saw(1), 31);
        e.is("saw(2)", y.saw(2), 5);
    }

    private void mates() {
        e.of(0, "A MATE tries NUMBERS in ORDER by CLUES it knows alone (untried ones, whatever was FELT; of like ones the least).");
        FourWheels x = Told.of("wheel 5;clue 3: w 0 = 0;clue 9: w 0 > 2;clue 10: w 0 > 0;mate;mate 0;mate 1 0;mate 2;set 4;");
        int[][] due = {{0, 1, 2, 3, 4, NONE}, {1, 2, 3, 4, 0, NONE}, {3, 4, 1, 2, 0, NONE}, {1, 2, 3, 4, NONE, NONE}};
        x.feel(0, 3);
        for (int m = 0; m < 4; m++) {
            for (int k = 0; k < 6; k++) {
                e.is("mate(" + m + ", " + k + ")", x.mate(m, k), due[m][k]);
            }
        }
        x.tries(3);
        e.is("untried: mate(2, 0)", x.mate(2, 0), 4);
        e.is("untried: mate(0, 3)", x.mate(0, 3), 4);
        e.is("untried: mate(0, 4)", x.mate(0, 4), NONE);
        e.of(0, "GUARDED: how likely it opens in n TRIES at most: by CHANCES of all LEFT.");
        FourWheels y = Told.of("wheel 4;clue 7: w 0 = 3;mate;mate 0;set 3;");
        int[] upper = {0, 3, 3, 9, 1};
        int[] lower = {1, 16, 8, 16, 1};
        int[] knowing = {0, 7, 5, 13, 1};
        int[] knowingLower = {1, 16, 8, 16, 1};
        for (int n = 0; n <= 4; n++) {
            e.is("guarded(0, " + n + ", 0)", y.guarded(0, n, 0), upper[n]);
            e.is("guarded(0, " + n + ", 1)", y.guarded(0, n, 1), lower[n]);
            e.is("guarded(1, " + n + ", 0)", y.guarded(1, n, 0), knowing[n]);
            e.is("guarded(1, " + n + ", 1)", y.guarded(1, n, 1), knowingLower[n]);
        }
        y.feel(0, 0);
        e.is("a felt one isn't LEFT: guarded(0, 1, 0)", y.guarded(0, 1, 0), 0);
        e.is("3 of 13: guarded(0, 2, 1)", y.guarded(0, 2, 1), 13);
        e.of(0, "LEAST GUESSED: of LEFT ones that which each MATE would try, of all MATES the soonest, latest; the first.");
        FourWheels z = Told.of("wheel 6;clue 9: w 0 > 2;mate;mate 0;");
        // 0 1 2 3 4 5 by the one, 3 4 5 0 1 2 by the other: the soonest of 0 to 5 are 0 1 2 0 1 2
        e.is("hidden(), like ones, the first", z.hidden(), 2);
        z.tries(2);
        // 0 1 3 4 5, 3 4 5 0 1: 0 1 - 0 1 2
        e.is("hidden()", z.hidden(), 5);
        FourWheels one = Told.of("wheel 6;mate;");
        e.is("one mate: the last", one.hidden(), 5);
        FourWheels many = Told.of(FOUR + "mate;mate;mate;mate;");
        e.is("the last of all", many.hidden(), 9999);
        e.of(0, "WHO TRIED so in a TRAY (1 to 6 NUMBERS): MATES who would try just these first, in any row (one told twice is one).");
        FourWheels w = Told.of("wheel 9;clue 9: w 0 > 2;clue 10: w 0 = 8;mate;mate 0;mate 1;mate;");
        who(w, 9, 0);
        who(w, 2, 3);
        who(w, 4, 8);
        who(w, 9, 2, 1, 0);
        who(w, 0, 2, 0);
        who(w, 2, 8, 7, 6, 5, 4, 3);
        who(w, 9, 5, 4, 3, 2, 1, 0);
        who(w, 2, 4, 3, 4, 3, 4, 3);
        who(w, 9, 0, 0, 0, 0, 0, 1);
        who(w, 4, 8, 8);
        who(w, 0, 8, 0);
        who(w, 0, 8, 7);
    }

    private void who(FourWheels x, int due, long... numbers) {
        Told.lay(x, 0, numbers);
        e.is("who of " + Arrays.toString(numbers), x.who(0), due);
    }

    private void bySeconds() {
        e.of(0, "BY SECONDS in a TRAY (1 or 2 numbers, 0 to 999): rows of as many NUMBERS (LEFT or not), "
                + "each by TURNS from the one ahead of it (the first: from how WHEELS stand) of that many SECONDS.");
        String[] sheds = {"", "wheel 5;at 2;", SMALL, "wheel 2;wheel 3 stiff 2;wheel 4 round;at 1 2 3;",
            "wheel 3;wheel 2;wheel 3 round;wheel 2 stiff 3;at 1 1 1 1;"};
        for (String shed : sheds) {
            FourWheels x = Told.of(shed);
            Turns turns = new Turns(shed);
            if (shed.equals(SMALL)) {
                x.tries(4);
                x.feel(0, 0);
            }
            int[] stands = {x.count(1), x.count(7)};
            for (int first = 0; first < 6; first++) {
                Told.lay(x, 0, first);
                e.is("rows of " + first + ": " + shed, x.rows(0), plainRows(turns, stands, first, -1));
                for (int second = 0; second < 5; second++) {
                    Told.lay(x, 0, first, second);
                    e.is("rows of " + first + ", " + second + ": " + shed, x.rows(0), plainRows(turns, stands, first, second));
                }
            }
        }
    }

    /** By every number of so many, from where the wheels stand, and every number behind it. */
    private static long plainRows(Turns turns, int[] stands, int first, int second) {
        long found = 0;
        for (int a = 0; a < stands[0]; a++) {
            if (turns.of(stands[1], a) == first) {
                for (int b = 0; b < stands[0]; b++) {
                    found += second >= 0 && turns.of(a, b) == second ? 1 : 0;
                }
                found += second < 0 ? 1 : 0;
            }
        }
        return found;
    }

    private void years() {
        e.of(0, "A YEAR by a SEED (x, an int; a DRAW: x becomes 1103515245 x + 12345, it is x >>> 16): "
                + "so many times (1 to 30), as long as it isn't OPEN, and some are LEFT: "
                + "DRAW modulo 3: 0 a TRY of the first in ORDER, 1 of the LEFT one that is k-th by numbers, "
                + "k being DRAW modulo how many are LEFT, 2 the nearest.");
        String[] sheds = {SMALL, "wheel 4;wheel 5 stiff 3;at 3 2;clue 7: has 1 = 1;", "wheel 2;", "",
            "wheel 9;wheel 9;set 8 8;clue 1: w 0 = 1;bar 3 7;"};
        int[] seeds = {0, 1, 6, 77, -1, 65535, 65536, Integer.MIN_VALUE, Integer.MAX_VALUE, 123456789};
        for (String shed : sheds) {
            for (int seed : seeds) {
                for (int times : new int[] {1, 2, 29, 30}) {
                    year(shed, seed, times);
                }
            }
        }
    }

    private void year(String shed, int seed, int times) {
        FourWheels x = Told.of(shed);
        FourWheels plain = Told.of(shed);
        List<Integer> left = new ArrayList<>();
        for (int number = 0; number < plain.count(1); number++) {
            left.add(number);
        }
        int draw = seed;
        for (int i = 0; i < times && plain.count(6) == 0 && !left.isEmpty(); i++) {
            draw = 1103515245 * draw + 12345;
            int way = (draw >>> 16) % 3;
            int number = way == 0 ? plain.order(0) : plain.nearest();
            if (way == 1) {
                draw = 1103515245 * draw + 12345;
                number = left.get((draw >>> 16) % left.size());
            }
            plain.tries(number);
            left.remove((Integer) number);
        }
        String call = shed + " year(" + seed + ", " + times + ")";
        e.is(call, x.year(seed, times), plain.count(4));
        for (int what : new int[] {4, 6, 7, 10, 11}) {
            e.is(call + ", count(" + what + ")", x.count(what), plain.count(what));
        }
        for (int number = 0; number < x.count(1); number++) {
            e.is(call + ", likely(" + number + ")", x.likely(number), plain.likely(number));
        }
        e.is(call + ", count(5)", x.count(5), 1);
    }

    private void traysAndImages() {
        e.of(0, "TRAYS 0 to 3 are MISSING at first, or have 0 to 40 numbers of 8 bits (sort 0), 16 (1), 32 (2), 64 (3).");
        FourWheels x = Told.of(SMALL);
        for (int tray = -1; tray <= 4; tray++) {
            boolean is = tray >= 0 && tray <= 3;
            e.is("copy(" + tray + ")", x.copy(tray), is ? -6 : -2);
            e.is("write(" + tray + ", 0, 1)", x.write(tray, 0, 1), is ? -6 : -2);
            e.is("numbers(" + tray + ", 0, 0)", x.numbers(tray, 0, 0), is ? 0 : -2);
            e.is("copy(" + tray + ")", x.copy(tray), is ? 0 : -2);
            e.is("write(" + tray + ", 0, 1)", x.write(tray, 0, 1), is ? -7 : -2);
        }
        long[] most = {127, 32767, Integer.MAX_VALUE, Long.MAX_VALUE};
        for (int sort = 0; sort < 4; sort++) {
            e.is("numbers(0, " + sort + ", 40)", x.numbers(0, sort, 40), 0);
            for (int i : new int[] {0, 1, 38, 39}) {
                e.is("the most of sort " + sort, x.write(0, i, most[sort]), most[sort]);
                e.is("the least of sort " + sort, x.write(0, i, -most[sort] - 1), -most[sort] - 1);
                e.is("one more than the most of sort " + sort, x.write(0, i, most[sort] + 1), -most[sort] - 1);
                e.is("one less than the least of sort " + sort, x.write(0, i, -most[sort] - 2), most[sort]);
                e.is("0", x.write(0, i, 0), 0);
                e.is("-1", x.write(0, i, -1), -1);
            }
            e.is("behind the last", x.write(0, 40, 1), -7);
        }
        e.of(0, "IMAGES 0 to 1: THE SHED and what a call could bring back by UNDOING; nothing can be UNDONE behind (none at first).");
        FourWheels y = Told.of(SMALL);
        for (int i = -1; i <= 2; i++) {
            boolean is = i == 0 || i == 1;
            e.is("restore(" + i + ")", y.restore(i), is ? -5 : -2);
            e.is("image(" + i + ")", y.image(i), is ? 0 : -2);
            e.is("restore(" + i + ")", y.restore(i), is ? 0 : -2);
        }
        y.tries(3);
        y.feel(1, 0);
        y.tries(7);
        y.image(0);
        String then = Look.at(y);
        y.tries(6);
        Told.shed(y, "wheel 2;");
        y.tries(1);
        e.is("restore(0)", y.restore(0), 0);
        e.is("nothing can be undone", y.undo(1), -3);
        e.same("all but what can be undone", Look.at(y), then.replace("count 5: 3", "count 5: 0"));
    }

    private void refused() {
        e.of(0, "Refused calls answer by a code and change nothing:");
        Refused.all(e);
        e.of(0, "-2 there is none such;");
        FourWheels x = Told.of(SMALL);
        e.is("tells(2, 0)", x.tells(2, 0), -2);
        e.is("mean(2)", x.mean(2), -2);
        e.of(0, "-3 a number can't be;");
        e.is("tries(9)", x.tries(9), -3);
        e.is("year(0, 31)", x.year(0, 31), -3);
        e.of(0, "-4 too many;");
        x.numbers(0, 0, 9);
        e.is("best(0, 0)", x.best(0, 0), -4);
        e.is("who(0)", x.who(0), -4);
        e.is("rows(0)", x.rows(0), -4);
        e.of(0, "-5 it can't be now;");
        e.is("restore(1)", x.restore(1), -5);
        e.of(0, "-6 a TRAY is MISSING;");
        e.is("perform(1)", x.perform(1), -6);
        e.of(0, "-7 it has no such number;");
        e.is("write(0, 9, 0)", x.write(0, 9, 0), -7);
        e.of(0, "-30 less the FAULT: a text.");
        String[] texts = {"!", ";", "pull 0;", "mate;mate;mate;mate;mate;"};
        for (int fault = 1; fault <= 4; fault++) {
            e.is("shed of " + texts[fault - 1], Told.shed(x, texts[fault - 1]), -30 - fault);
        }
        e.of(0, "(Of several that which the call tells first; all these ahead of NONE.)");
        FourWheels none = Told.of("wheel 2;clue 0: 1 = 1;");
        e.is("danger(-1), no mates, none left", none.danger(-1), -3);
        e.is("danger(1), no mates, none left", none.danger(1), -5);
        e.is("no mates", Told.of("wheel 2;").danger(1), NONE);
        e.is("order(-1), not so many", none.order(-1), -3);
        e.is("wheel(1, 4), none surely", none.wheel(1, 4), -2);
        e.is("best(0, 10), missing", none.best(0, 10), -6);
        e.is("mate(0, 9), no mates", none.mate(0, 9), -2);
        e.is("judge(0, 0), missing", none.judge(0, 0), -6);
    }
}
