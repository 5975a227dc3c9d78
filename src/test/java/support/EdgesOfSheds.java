/** The edges of promises 1 to 7: a new object, the tape, the shed, its fault, wheels, clues, figures. */
final class EdgesOfSheds {
    private static final int NONE = FourWheels.NONE;
    private static final int BLANKS = 0x20202020;
    private static final int[] FAR = {Integer.MIN_VALUE, -2, -1, Integer.MAX_VALUE};
    private static final String SMALL = "wheel 3;wheel 3 stiff 2 round;clue 8: has 2 = 1;clue 5: sum > 2;bar 2 30;saw 60;"
            + "mate 0;mate;set 2 0;at 0 1;";

    private final Edges e;

    EdgesOfSheds(Edges e) {
        this.e = e;
    }

    void all() {
        promise1();
        promise2();
        promise3();
        promise3Stays();
        promise4();
        promise5();
        promise6();
        promise7();
    }

    private void promise1() {
        e.of(1, "No WHEELS.");
        FourWheels x = new FourWheels();
        int[] due = {0, 1, 0, 0, 0, 0, 0, 0, 0, 0, 0, 0};
        for (int what = 0; what < due.length; what++) {
            e.is("count(" + what + ")", x.count(what), due[what]);
        }
        e.is("wheel(0, 0)", x.wheel(0, 0), -2);
        e.is("figure(0, 0)", x.figure(0, 0), -2);
        e.is("holds(0, 0)", x.holds(0, 0), -2);
        e.is("tells(0, 0)", x.tells(0, 0), -2);
        e.is("mate(0, 0)", x.mate(0, 0), -2);
        e.is("likely(0)", x.likely(0), 1);
        e.is("chance(1, 1)", x.chance(1, 1), 1);
        e.is("steps(0, 0)", x.steps(0, 0), 0);
        e.is("length(1)", x.length(1), 0);
        e.is("length(2)", x.length(2), -3);
        e.is("undo(1)", x.undo(1), -3);
        e.is("shed(0)", x.shed(0), 0);
        e.is("shed(1)", x.shed(1), -3);
    }

    private void promise2() {
        e.of(2, "Twenty bytes come behind those on THE TAPE,");
        FourWheels x = new FourWheels();
        // "saw 9;pull 7;       " and "pull 8;             "
        x.feed(0x73617720, 0x393b7075, 0x6c6c2037, 0x3b202020, BLANKS);
        x.feed(0x70756c6c, 0x20383b20, BLANKS, BLANKS, BLANKS);
        e.is("shed(40)", x.shed(40), 3);
        x.tries(0);
        e.is("the second is behind the first", x.count(4), 8);
        e.of(2, "the highest of each int first:");
        x.feed(BLANKS, BLANKS, 0x20707520, BLANKS, BLANKS);
        e.is("pu is no line", x.shed(20), -32);
        e.is("its place", x.fault(1), 9);
        for (int shift = 0; shift < 32; shift += 8) {
            for (int i = 0; i < 5; i++) {
                int[] v = {BLANKS, BLANKS, BLANKS, BLANKS, BLANKS};
                v[i] = BLANKS & ~(255 << shift) | 128 << shift;
                x.feed(v[0], v[1], v[2], v[3], v[4]);
                e.is("a byte of 128", x.shed(20), -31);
                e.is("int " + i + ", its bits from " + shift, x.fault(1), 4 * i + 3 - shift / 8);
            }
        }
        x.feed(-1, -1, -1, -1, -1);
        e.is("bytes of 255", x.shed(20), -31);
        e.is("the first one", x.fault(1), 0);
        e.of(2, "how many it has.");
        for (int i = 1; i <= 45; i++) {
            e.is("feed " + i, x.feed(BLANKS, BLANKS, BLANKS, BLANKS, BLANKS), 20 * i);
            e.is("count(8)", x.count(8), 20 * i);
        }
        e.of(2, "-5: it would have more than 900.");
        e.is("behind 900", x.feed(0, 0, 0, 0, 0), -5);
        e.is("again", x.feed(0, 0, 0, 0, 0), -5);
        e.is("count(8)", x.count(8), 900);
        e.is("900 blanks", x.shed(900), 0);
        e.is("from the first on again", x.feed(0, 0, 0, 0, 0), 20);
    }

    private void promise3() {
        e.of(3, "The first n bytes of THE TAPE (which is empty then) are THE SHED,");
        FourWheels x = new FourWheels();
        Told.feed(x, "saw 1;saw 2;saw 3;!!");
        e.is("shed(18) of 20", x.shed(18), 3);
        e.is("empty", x.count(8), 0);
        e.is("shed(1)", x.shed(1), -3);
        Told.feed(x, "saw 1;saw 2;saw 3;!!");
        e.is("shed(6) of 20", x.shed(6), 1);
        Told.feed(x, "saw 1;saw 2;saw 3;!!");
        e.is("shed(0) of 20", x.shed(0), 0);
        e.is("empty", x.count(8), 0);
        Told.feed(x, "saw 1;saw 2;saw 3;!!");
        e.is("shed(20), a fault", x.shed(20), -31);
        e.is("empty", x.count(8), 0);
        Told.feed(x, "saw 1;saw 2;saw 3;!!");
        e.is("shed(5), no ;", x.shed(5), -32);
        e.is("its place", x.fault(1), 5);
        Told.feed(x, " ");
        e.is("nothing is left of the one before", x.shed(20), 0);
        Told.feed(x, "pull 1;");
        e.is("shed(3), within a word", x.shed(3), -32);
        e.is("its place", x.fault(1), 0);
        Told.feed(x, "saw 1000;");
        e.is("shed(7), within an N", x.shed(7), -32);
        e.is("its place", x.fault(1), 7);
        Told.feed(x, "mates;");
        e.is("shed(4), a word but no ;", x.shed(4), -32);
        e.is("its place", x.fault(1), 4);
        nothingOfTheOneBefore();
        e.of(3, "nothing tried, nothing can be UNDONE:");
        FourWheels y = Told.of(SMALL);
        String fresh = Look.at(y);
        y.tries(8);
        y.feel(0, 0);
        y.tries(0);
        e.is("three can be", y.count(5), 3);
        e.is("the same again", Told.shed(y, SMALL), 10);
        e.same("all as told", Look.at(y), fresh);
        e.is("undo(1)", y.undo(1), -3);
        y.tries(6);
        e.is("open", y.count(6), 1);
        Told.shed(y, SMALL);
        e.same("all as told", Look.at(y), fresh);
        e.is("shed(0)", y.shed(0), 0);
        e.same("as a new one", Look.at(y), Look.at(new FourWheels()));
        e.of(3, "how many LINES");
        e.is("ten", Told.shed(y, SMALL), 10);
        e.is("none", Told.shed(y, "  "), 0);
        e.is("count(9)", y.count(9), 0);
        e.is("150", Told.shed(new FourWheels(), "saw 1;".repeat(150)), 150);
    }

    private void nothingOfTheOneBefore() {
        String[] sheds = {SMALL, "", "wheel 3;wheel 2;", "wheel 2 stiff 9 round;wheel 9 stiff 3 round;clue 3: w 1 > 2;pull 60;bar 1 999;saw 5;mate 0;mate;set 1 8;at 1 7;",
            "wheel 10;wheel 10;wheel 10;set 1 2 3;bar 9 9;clue 6: has 3 = 1;clue 0: w 0 = 9;mate 1;", "wheel 2;saw 999;clue 5: 1 = 2;"};
        for (String before : sheds) {
            for (String shed : sheds) {
                FourWheels x = Told.of(before);
                FourWheels fresh = Told.of(shed);
                x.tries(0);
                x.tries(1);
                x.feel(0, 1);
                Told.shed(x, shed);
                for (FourWheels each : new FourWheels[] {x, fresh}) {
                    each.tries(0);
                    each.tries(0);
                    each.feel(1, 1);
                    each.year(5, 3);
                }
                e.same(shed + " behind " + before, Look.at(x), Look.at(fresh));
            }
        }
        FourWheels x = new FourWheels();
        String longest = "clue5:1" + "+1".repeat(444) + "=445;";
        for (int i = 0; i < 5; i++) {
            e.is("the longest text", Told.shed(x, longest), 1);
            e.is("its clue: holds(0, 0)", x.holds(0, 0), 1);
            e.is("another one", Told.shed(x, longest.replace("=445", "=444")), 1);
            e.is("its clue: holds(0, 0)", x.holds(0, 0), 0);
        }
    }

    private void promise3Stays() {
        e.of(3, "(all stays with a FAULT).");
        String[] texts = {"!", "wheel 2;wheel", "wheel 2;pull 61;", "pull 9;bar 1 1;saw 9;mate;set 0;", "clue 5: 1 = 1;clue 5: 1 = 2;mate 9;",
            "wheel 10;wheel 10;wheel 10;wheel 10;at 9 9 9 9;set 0 0 0;", "mate;mate;mate;mate;mate;", "at 0;"};
        for (String text : texts) {
            FourWheels x = Told.of(SMALL);
            Told.lay(x, 0, 7, 2, 3);
            x.tries(8);
            x.feel(0, 0);
            String before = Look.at(x);
            int code = Told.shed(x, text);
            e.is("a fault: " + text, code < -30 && code > -35 ? 1 : 0, 1);
            String after = Look.at(x).replace("fault " + x.fault(0) + " " + x.fault(1), "fault 0 -1");
            e.same("behind " + text, after, before);
            e.is("holds(0, 2)", x.holds(0, 2), 1);
            e.is("undo(2)", x.undo(2), 0);
            e.is("left()", x.left(), 9);
        }
        e.of(3, "-3: n is below 0 or above what there is (THE TAPE stays);");
        FourWheels x = new FourWheels();
        for (int n : FAR) {
            e.is("shed(" + n + ") of an empty one", x.shed(n), -3);
        }
        Told.feed(x, "saw 1;");
        for (int n : FAR) {
            e.is("shed(" + n + ")", x.shed(n), -3);
        }
        e.is("shed(21)", x.shed(21), -3);
        e.is("it stays", x.count(8), 20);
        e.is("shed(20)", x.shed(20), 1);
        e.of(3, "-30 less the FAULT.");
        e.is("1", Told.shed(x, "saw 1;."), -31);
        e.is("2", Told.shed(x, "saw 1;saw"), -32);
        e.is("3", Told.shed(x, "saw 0;"), -33);
        e.is("4", Told.shed(x, "mate;mate;mate;mate;mate;"), -34);
    }

    private void promise4() {
        e.of(4, "Of the latest shed() that was read,");
        FourWheels x = new FourWheels();
        e.is("none was: fault(0)", x.fault(0), 0);
        e.is("none was: fault(1)", x.fault(1), NONE);
        Told.shed(x, "saw 0;");
        x.image(0);
        e.is("shed(1), not read", x.shed(1), -3);
        e.is("shed(-1), not read", x.shed(-1), -3);
        e.is("fault(0)", x.fault(0), 3);
        e.is("fault(1)", x.fault(1), 4);
        x.restore(0);
        x.tries(0);
        e.is("fault(0)", x.fault(0), 3);
        Told.shed(x, "  saw;");
        e.is("fault(0)", x.fault(0), 2);
        e.is("fault(1)", x.fault(1), 5);
        e.of(4, "what 0: its FAULT (0), 1: its place (NONE).");
        Told.shed(x, "!");
        e.is("fault(0)", x.fault(0), 1);
        e.is("the first place: fault(1)", x.fault(1), 0);
        Told.shed(x, "saw 9;");
        e.is("none: fault(0)", x.fault(0), 0);
        e.is("none: fault(1)", x.fault(1), NONE);
        Told.shed(x, " ".repeat(899) + "!");
        e.is("the last place: fault(1)", x.fault(1), 899);
        Told.shed(x, "saw 1;".repeat(149) + "saw 1 ");
        e.is("the end of 900: fault(1)", x.fault(1), 900);
        e.of(4, "NONE for others.");
        e.is("fault(2)", x.fault(2), NONE);
        for (int what : FAR) {
            e.is("fault(" + what + ")", x.fault(what), NONE);
        }
    }

    private void promise5() {
        e.of(5, "Of a WHEEL, what 0: FIGURES, 1: stiffness, 2: 1 if round, else 0, 3: how it stands,");
        FourWheels x = Told.of("wheel 2;wheel 10 stiff 9;wheel 9 round;wheel 3 stiff 2 round;at 1 9 8 2;");
        int[][] due = {{2, 1, 0, 1}, {10, 9, 0, 9}, {9, 1, 1, 8}, {3, 2, 1, 2}};
        for (int w = 0; w < 4; w++) {
            for (int what = 0; what < 4; what++) {
                e.is("wheel(" + w + ", " + what + ")", x.wheel(w, what), due[w][what]);
            }
        }
        x.tries(0);
        for (int w = 0; w < 4; w++) {
            e.is("turned: wheel(" + w + ", 3)", x.wheel(w, 3), 0);
        }
        e.of(5, "4: the figure it surely has (of LEFT ones; NONE: none).");
        for (int figure = 0; figure < 4; figure++) {
            e.is("surely " + figure, Told.of("wheel 4;clue 10: w 0 = " + figure + ";").wheel(0, 4), figure);
        }
        e.is("0 or 3", Told.of("wheel 4;clue 0: w 0 = 1 or w 0 = 2;").wheel(0, 4), NONE);
        e.is("none left", Told.of("wheel 4;clue 0: 1 = 1;").wheel(0, 4), NONE);
        FourWheels y = Told.of("wheel 3;wheel 2;set 2 1;");
        e.is("all left", y.wheel(0, 4), NONE);
        y.tries(0);
        y.tries(2);
        y.tries(4);
        e.is("1 is sure by tries", y.wheel(1, 4), 1);
        e.is("the first wheel isn't", y.wheel(0, 4), NONE);
        y.feel(0, 2);
        e.is("2 is sure by feeling", y.wheel(0, 4), 2);
        y.tries(5);
        e.is("open, none left: wheel(0, 4)", y.wheel(0, 4), NONE);
        e.is("open, none left: wheel(1, 4)", y.wheel(1, 4), NONE);
        e.of(5, "-2.");
        for (int at : FAR) {
            for (int what = 0; what < 5; what++) {
                e.is("wheel(" + at + ", " + what + ")", y.wheel(at, what), -2);
            }
            e.is("wheel(0, " + at + ")", y.wheel(0, at), -2);
        }
        for (int what = 0; what < 6; what++) {
            e.is("wheel(2, " + what + ")", y.wheel(2, what), -2);
        }
        e.is("wheel(0, 5)", y.wheel(0, 5), -2);
        e.is("wheel(4, 0) of four", x.wheel(4, 0), -2);
    }

    private void promise6() {
        e.of(6, "Whether a CLUE holds for a NUMBER: 1, 0.");
        FourWheels x = Told.of("wheel 3;wheel 3;clue 0: w 0 = 1;clue 10: w 1 = 2;");
        for (int number = 0; number < 9; number++) {
            e.is("holds(0, " + number + ")", x.holds(0, number), number / 3 == 1 ? 1 : 0);
            e.is("holds(1, " + number + ")", x.holds(1, number), number % 3 == 2 ? 1 : 0);
        }
        x.tries(5);
        e.is("tried or not: holds(1, 5)", x.holds(1, 5), 1);
        e.is("without WHEELS", Told.of("clue 5: 1 = 1;").holds(0, 0), 1);
        e.of(6, "-2: the CLUE;");
        for (int clue : FAR) {
            e.is("holds(" + clue + ", 0)", x.holds(clue, 0), -2);
            e.is("holds(" + clue + ", 9)", x.holds(clue, 9), -2);
        }
        e.is("holds(2, 0)", x.holds(2, 0), -2);
        e.is("holds(2, -1)", x.holds(2, -1), -2);
        e.of(6, "-3: the NUMBER.");
        for (int number : FAR) {
            e.is("holds(1, " + number + ")", x.holds(1, number), -3);
        }
        e.is("holds(0, 9)", x.holds(0, 9), -3);
    }

    private void promise7() {
        e.of(7, "A figure of a NUMBER.");
        FourWheels x = Told.of("wheel 10;wheel 2;wheel 10;wheel 5;");
        int[][] due = {{0, 0, 0, 0}, {9, 1, 9, 4}, {0, 0, 0, 4}, {0, 1, 0, 0}};
        int[] numbers = {0, 999, 4, 50};
        for (int i = 0; i < 4; i++) {
            for (int w = 0; w < 4; w++) {
                e.is("figure(" + numbers[i] + ", " + w + ")", x.figure(numbers[i], w), due[i][w]);
            }
        }
        e.of(7, "-2: the WHEEL;");
        for (int w : FAR) {
            e.is("figure(0, " + w + ")", x.figure(0, w), -2);
            e.is("figure(1000, " + w + ")", x.figure(1000, w), -2);
        }
        e.is("figure(0, 4)", x.figure(0, 4), -2);
        e.is("figure(-1, 4)", x.figure(-1, 4), -2);
        e.is("one wheel: figure(0, 1)", Told.of("wheel 2;").figure(0, 1), -2);
        e.of(7, "-3.");
        for (int number : FAR) {
            e.is("figure(" + number + ", 0)", x.figure(number, 0), -3);
        }
        e.is("figure(1000, 3)", x.figure(1000, 3), -3);
    }
}
