/** Each promise by ordinary inputs, by the edges that the document names, and by wrong inputs. */
public final class PromisesTest {
    private static final Due DUE = new Due();
    private static final int NONE = FourWheels.NONE;
    // nine numbers: 2, 5, 6, 7, 8 have a 2 and weigh 40, the others 10; 6 opens it, 1 is how it stands
    private static final String SMALL = "wheel 3;wheel 3 stiff 2 round;clue 8: has 2 = 1;clue 5: sum > 2;bar 2 30;saw 60;"
            + "mate 0;mate;set 2 0;at 0 1;";
    private static final String FOUR = "wheel 10;wheel 10;wheel 10;wheel 10;";

    private static void is(String call, long got, long want) {
        DUE.is(call, got, want);
    }

    private static void fault(String text, int kind, int place) {
        FourWheels x = new FourWheels();
        is("shed: " + text, Told.shed(x, text), -30 - kind);
        is("fault(0): " + text, x.fault(0), kind);
        is("fault(1): " + text, x.fault(1), place);
    }

    private static void right(String text, int lines) {
        is("shed: " + text, Told.shed(new FourWheels(), text), lines);
    }

    private static void newObject() {
        FourWheels x = new FourWheels();
        long[] due = {0, 1, 0, 0, 0, 0, 0, 0, 0, 0, 0, 0};
        for (int what = 0; what < due.length; what++) {
            is("new: count(" + what + ")", x.count(what), due[what]);
        }
        is("new: fault(0)", x.fault(0), 0);
        is("new: fault(1)", x.fault(1), NONE);
        is("new: wheel(0, 0)", x.wheel(0, 0), -2);
        is("new: left()", x.left(), 1);
        is("new: copy(3)", x.copy(3), -6);
        is("new: restore(1)", x.restore(1), -5);
        is("new: undo(1)", x.undo(1), -3);
        is("new: tries(0)", x.tries(0), 0);
        is("new: seconds", x.count(4), 3);
        is("NONE", NONE, -1);
    }

    private static void feed() {
        FourWheels x = new FourWheels();
        for (int i = 1; i <= 45; i++) {
            is("feed " + i, x.feed(0x20202020, 0x20202020, 0x20202020, 0x20202020, 0x20202020), 20 * i);
        }
        is("feed beyond 900", x.feed(0, 0, 0, 0, 0), -5);
        is("bytes", x.count(8), 900);
        is("900 blanks", x.shed(900), 0);
        is("bytes", x.count(8), 0);
        // the highest byte comes first: "pull" " 7; " and so on
        x.feed(0x70756c6c, 0x20373b20, 0x20202020, 0x0a0a0a0a, 0x2020202c);
        is("shed(19)", x.shed(19), 1);
        x.feed(0x20202020, 0x20202020, 0x80202020, 0x20202020, 0x20202020);
        is("a byte above 127", x.shed(20), -31);
        is("its place", x.fault(1), 8);
    }

    private static void shed() {
        FourWheels x = Told.of(SMALL);
        x.tries(0);
        x.feel(0, 0);
        Told.feed(x, "pull 5; pull 6;");
        is("shed(-1)", x.shed(-1), -3);
        is("shed(21)", x.shed(21), -3);
        is("the tape stays", x.count(8), 20);
        is("shed(6), without its ;", x.shed(6), -32);
        is("the tape is empty behind a fault", x.count(8), 0);
        is("all stays: wheels", x.count(0), 2);
        is("all stays: tried", x.count(11), 1);
        is("all stays: undone", x.count(5), 2);
        is("all stays: lines", x.count(9), 10);
        is("all stays: likely", x.likely(2), 0);
        Told.feed(x, "pull 5; pull 6;");
        is("shed(7) of 20", x.shed(7), 1);
        is("the tape is empty", x.count(8), 0);
        is("no wheels", x.count(0), 0);
        is("nothing tried", x.count(11), 0);
        is("nothing undone", x.count(5), 0);
        is("no seconds", x.count(4), 0);
        x.tries(0);
        is("its pull", x.count(4), 5);
        is("shed(0)", x.shed(0), 0);
        x.tries(0);
        is("pull 3 without a text", x.count(4), 3);
        is("saw without a text", x.saw(0), -5);
    }

    private static void texts() {
        right("", 0);
        right(" \n ", 0);
        right("wheel2stiff9round;wheel 010;", 2);
        right("clue 0:0=0;clue 10:1<2and 3>2or not[1=1];", 2);
        right("clue 5: not [ not [ ( ( 1 ) ) = 1 ] ];", 1);
        right("clue 5: [[[(((1)))=1]]];", 1);
        right("clue 5: [[[(((1))) + (((1)))=1]]] and [[[1=1]]];", 1);
        right("mate;pull 1;pull 60;bar 1 1;bar 9 999;saw 1;saw 999;wheel 2;wheel 10 stiff 1;mate;mate;mate;", 12);
        right("wheel 2;set 1;at 1;set 0;at 0;clue 5: w 0 = has 9;mate 0 0 0;", 7);
        fault("wheel 2;\t", 1, 8);
        fault("wheel 2;A", 1, 8);
        fault("wheel ?", 1, 6);
        fault("pull 0001;", 1, 5);
        fault("pull 12345;", 1, 5);
        fault("`", 1, 0);
        fault("{", 1, 0);
        fault("za;", 2, 0);
        fault("az;", 2, 0);
        fault("wheel:", 2, 5);
        fault("wheel/", 1, 5);
        fault("wheel,", 1, 5);
        fault("clue 5: 1 ? 1;", 1, 10);
        fault("clue 5: 1 \\ 1;", 1, 10);
        fault(";", 2, 0);
        fault("wheel 2;;", 2, 8);
        fault("wheels 2;", 2, 0);
        fault("wheelwheel 2;", 2, 0);
        fault("wheel 2 stiff;", 2, 13);
        fault("wheel 2 round round;", 2, 14);
        fault("wheel 2 2;", 2, 8);
        fault("wheel", 2, 5);
        fault("wheel 2  ", 2, 9);
        fault("wheel 2;set 0;wheel 2;", 2, 14);
        fault("wheel 2;at 0;wheel 2;", 2, 13);
        fault("wheel 2;wheel 2;wheel 2;wheel 2;at 0 0 0 0;wheel 2;", 2, 43);
        fault("wheel 2;wheel 3;set 1;", 2, 21);
        fault("wheel 2;at", 2, 10);
        fault("wheel 2;set 0 9;", 2, 14);
        fault("set;", 2, 3);
        fault("clue 5: 1 = 1 = 1;", 2, 14);
        fault("clue 5: ( 1 = 1 );", 2, 12);
        fault("clue 5: [ 1 ] = 1;", 2, 12);
        fault("clue 5: 1 + = 1;", 2, 12);
        fault("clue 5: 1 = - 1;", 2, 12);
        fault("clue 5: 1 = 1 or;", 2, 16);
        fault("clue 5: 1 = 1 and and 1 = 1;", 2, 18);
        fault("clue 5: 1 * not 1 = 1;", 2, 12);
        fault("clue 5: w = 1;", 2, 10);
        fault("clue 5: stiff = 1;", 2, 8);
        fault("mate mate;", 2, 5);
        fault("wheel 0;", 3, 6);
        fault("wheel 999;", 3, 6);
        fault("wheel 2 stiff 0;", 3, 14);
        fault("wheel 2;set 2;", 3, 12);
        fault("wheel 2;wheel 3;at 1 3;", 3, 21);
        fault("at 0 0;", 3, 3);
        fault("clue 5: w 0 = 1;", 3, 10);
        fault("saw 0;", 3, 4);
        fault("bar 10 1;", 3, 4);
        fault("clue 5: 1 = 1;mate 0 1;", 3, 21);
        fault("mate 0;clue 5: 1 = 1;", 3, 5);
        fault("wheel 2;wheel 2;wheel 2;wheel 2;wheel x", 4, 32);
        fault("clue 5: [[[((( ( 1 ) )))=1]]];", 4, 15);
        fault("clue 5: not not not not not not [ 1 = 1 ];", 4, 32);
        fault("clue 5: not not not not not not ( 1 ) = 1;", 4, 32);
        // the first along the text, whatever comes behind it
        fault("pull 0 ; saw 0001;", 3, 5);
        fault("pull x ; saw 0001;", 2, 5);
    }

    /** As many tokens as 900 bytes can have. */
    private static void longest() {
        StringBuilder text = new StringBuilder("clue5:1");
        for (int i = 1; i < 445; i++) {
            text.append("+1");
        }
        text.append("=445;");
        is("the longest text", text.length(), 900);
        FourWheels x = Told.of(text.toString());
        is("its lines", x.count(9), 1);
        is("its clue", x.holds(0, 0), 1);
        Told.feed(x, text.toString().replace(";", "*"));
        is("without its end", x.shed(900), -32);
        is("the text's length", x.fault(1), 900);
    }

    private static void faultCall() {
        FourWheels x = new FourWheels();
        Told.shed(x, "pull 61;");
        is("fault(0)", x.fault(0), 3);
        is("fault(1)", x.fault(1), 5);
        is("fault(2)", x.fault(2), NONE);
        is("fault(-1)", x.fault(-1), NONE);
        x.shed(1);
        is("a refused shed was not read", x.fault(0), 3);
        x.shed(0);
        is("fault(0) behind a right one", x.fault(0), 0);
        is("fault(1) behind a right one", x.fault(1), NONE);
    }

    private static void wheel() {
        FourWheels x = Told.of(SMALL);
        long[][] due = {{3, 1, 0, 0, NONE}, {3, 2, 1, 1, NONE}};
        for (int w = 0; w < 2; w++) {
            for (int what = 0; what < 5; what++) {
                is("wheel(" + w + ", " + what + ")", x.wheel(w, what), due[w][what]);
            }
        }
        is("wheel(2, 0)", x.wheel(2, 0), -2);
        is("wheel(-1, 0)", x.wheel(-1, 0), -2);
        is("wheel(0, 5)", x.wheel(0, 5), -2);
        is("wheel(0, -1)", x.wheel(0, -1), -2);
        x.feel(0, 2);
        is("felt: wheel(0, 4)", x.wheel(0, 4), 2);
        is("felt: wheel(1, 4)", x.wheel(1, 4), NONE);
        x.tries(7);
        x.tries(8);
        is("one left: wheel(1, 4)", x.wheel(1, 4), 0);
        is("stands", x.wheel(1, 3), 2);
        x.tries(6);
        is("none left: wheel(0, 4)", x.wheel(0, 4), NONE);
        is("surely 0", Told.of("wheel 3;clue 10: w 0 = 0;").wheel(0, 4), 0);
        is("0 or 1", Told.of("wheel 3;clue 10: w 0 < 2;").wheel(0, 4), NONE);
        is("surely the last", Told.of("wheel 3;clue 10: w 0 = 2;").wheel(0, 4), 2);
    }

    private static void holdsAndFigure() {
        FourWheels x = Told.of(SMALL);
        is("holds(0, 6)", x.holds(0, 6), 1);
        is("holds(1, 6)", x.holds(1, 6), 0);
        is("holds(1, 7)", x.holds(1, 7), 1);
        is("holds(2, 9)", x.holds(2, 9), -2);
        is("holds(-1, 0)", x.holds(-1, 0), -2);
        is("holds(0, -1)", x.holds(0, -1), -3);
        is("holds(0, 9)", x.holds(0, 9), -3);
        is("figure(7, 0)", x.figure(7, 0), 2);
        is("figure(7, 1)", x.figure(7, 1), 1);
        is("figure(9, 2)", x.figure(9, 2), -2);
        is("figure(9, 0)", x.figure(9, 0), -3);
        is("figure(-1, 0)", x.figure(-1, 0), -3);
        is("figure(0, -1)", x.figure(0, -1), -2);
        FourWheels y = Told.of(FOUR);
        is("figure(1234, 0)", y.figure(1234, 0), 1);
        is("figure(1234, 3)", y.figure(1234, 3), 4);
    }

    private static void clues() {
        clue("w 1 = 2 and w 3 = 4", 1234, 1, 1235, 0);
        clue("has 7 = 1", 1237, 1, 1234, 0);
        clue("sum = 10", 1234, 1, 1235, 0);
        clue("alike = 2", 1212, 1, 1222, 0);
        clue("alike = 6", 5555, 1, 5556, 0);
        clue("number > 617 * 2", 1235, 1, 1234, 0);
        clue("1 + 2 * 3 = w 0", 7000, 1, 9000, 0);
        clue("( 1 + 2 ) * 3 = w 0", 9000, 1, 7000, 0);
        clue("9 - 3 - 2 = w 0", 4000, 1, 8000, 0);
        clue("w 0 = 1 or w 0 = 2 and w 1 = 3", 1000, 1, 2000, 0);
        clue("[ w 0 = 1 or w 0 = 2 ] and w 1 = 3", 2300, 1, 1000, 0);
        clue("not w 0 = 1 and w 1 = 1", 2100, 1, 1100, 0);
        clue("not [ w 0 = 1 and w 1 = 1 ]", 1200, 1, 1100, 0);
        clue("not not w 0 = 1", 1000, 1, 2000, 0);
        // kept at a million: 999 * 999 * 999 less 999,999 is one
        clue("999 * 999 * 999 - 1000 * 999 - 999 - 0 = w 0", -1, 0, -1, 0);
        clue("999 * 999 * 999 - 999 * 999 - 999 - 999 = w 0", 1000, 1, 0, 0);
        clue("0 - 999 * 999 * 999 + 999 * 999 + 999 + 999 = 0 - w 0", 1000, 1, 0, 0);
        clue("0 - 999 * 999 - 999 * 999 + 999 * 999 + 999 + 999 = 0 - w 0", 1000, 1, 0, 0);
    }

    /** For a number the clue's truth is due, for another one too; -1: the text is refused (a number of four digits). */
    private static void clue(String truth, int number, int due, int other, int otherDue) {
        String text = FOUR + "clue 9: " + truth + ";";
        if (number < 0) {
            is("shed: " + text, Told.shed(new FourWheels(), text), -31);
            return;
        }
        FourWheels x = Told.of(text);
        is(truth + " for " + number, x.holds(0, number), due);
        is(truth + " for " + other, x.holds(0, other), otherDue);
        is("its weight", x.likely(number), due == 1 ? 9 : 1);
    }

    private static void likelyLeftAll() {
        FourWheels x = Told.of(SMALL);
        is("likely(2)", x.likely(2), 40);
        is("likely(0)", x.likely(0), 10);
        is("likely(-1)", x.likely(-1), -3);
        is("likely(9)", x.likely(9), -3);
        is("left()", x.left(), 9);
        is("all()", x.all(), 240);
        x.tries(2);
        is("tried: likely(2)", x.likely(2), 0);
        is("tried: left()", x.left(), 8);
        is("tried: all()", x.all(), 200);
        x.feel(1, 1);
        is("not that figure: likely(7)", x.likely(7), 0);
        is("not that figure: left()", x.left(), 5);
        x.feel(0, 2);
        is("that figure: left()", x.left(), 2);
        is("that figure: all()", x.all(), 80);
        FourWheels y = Told.of("wheel 4;clue 10: w 0 > 1;clue 0: w 0 = 3;");
        is("no weight: left()", y.left(), 1);
        is("no weight: likely(3)", y.likely(3), 0);
        is("full weight: likely(2)", y.likely(2), 100);
        FourWheels z = Told.of(FOUR + "clue 10: 1=1;clue 10: 1=1;clue 10: 1=1;clue 10: 1=1;clue 10: 1=1;clue 10: 1=1;"
                + "clue 10: 1=1;clue 10: 1=1;");
        is("eight clues: likely(9999)", z.likely(9999), 100000000L);
        is("eight clues: all()", z.all(), 1000000000000L);
        is("eight clues: mean(0)", z.mean(0), 10001);
        is("eight clues: mean(1)", z.mean(1), 2);
    }

    private static void order() {
        FourWheels x = Told.of(SMALL);
        int[] due = {2, 5, 6, 7, 8, 0, 1, 3, 4};
        for (int k = 0; k < due.length; k++) {
            is("order(" + k + ")", x.order(k), due[k]);
        }
        is("order(9)", x.order(9), NONE);
        is("order(-1)", x.order(-1), -3);
        x.tries(5);
        is("tried: order(1)", x.order(1), 6);
        FourWheels y = Told.of("wheel 4;clue 7: w 0 = 1;clue 3: w 0 = 2;");
        // 0 and 3: 3 * 7; 1: 7 * 7; 2: 3 * 3
        int[] other = {1, 0, 3, 2};
        for (int k = 0; k < other.length; k++) {
            is("by clues of unlike truth: order(" + k + ")", y.order(k), other[k]);
        }
        // like weights by unlike clues mingle by their numbers
        FourWheels z = Told.of("wheel 6;clue 8: w 0 = 5;clue 8: w 0 = 1;clue 8: w 0 = 3;");
        int[] mingled = {1, 3, 5, 0, 2, 4};
        for (int k = 0; k < mingled.length; k++) {
            is("mingled: order(" + k + ")", z.order(k), mingled[k]);
        }
    }

    private static void chanceAndMean() {
        FourWheels x = Told.of(SMALL);
        is("chance(6, 0)", x.chance(6, 0), 7);
        is("chance(6, 1)", x.chance(6, 1), 8);
        is("chance(0, 0)", x.chance(0, 0), 0);
        is("chance(0, 1)", x.chance(0, 1), 1);
        is("chance(99, 1)", x.chance(99, 1), 1);
        is("chance(-1, 0)", x.chance(-1, 0), -3);
        is("chance(-1, 2)", x.chance(-1, 2), -2);
        is("chance(1, -1)", x.chance(1, -1), -2);
        is("mean(0)", x.mean(0), 15);
        is("mean(1)", x.mean(1), 4);
        is("mean(2)", x.mean(2), -2);
        is("mean(-1)", x.mean(-1), -2);
        FourWheels y = Told.of("wheel 2;clue 10: 1 = 2;");
        is("none left: chance(0, 0)", y.chance(0, 0), -5);
        is("none left: chance(-1, 0)", y.chance(-1, 0), -3);
        is("none left: mean(1)", y.mean(1), -5);
        is("none left: mean(2)", y.mean(2), -2);
        is("none left: all()", y.all(), 0);
        is("none left: nearest()", y.nearest(), NONE);
        is("none left: order(0)", y.order(0), NONE);
        is("none left: telling()", y.telling(), NONE);
    }

    private static void tells() {
        FourWheels x = Told.of(SMALL);
        is("tells(0, 0)", x.tells(0, 0), 60);
        is("tells(1, 2)", x.tells(1, 2), 120);
        is("tells(0, 3)", x.tells(0, 3), -3);
        is("tells(0, -1)", x.tells(0, -1), -3);
        is("tells(2, 9)", x.tells(2, 9), -2);
        x.tries(2);
        is("tried: tells(1, 2)", x.tells(1, 2), 80);
    }

    private static void tellingAndBut() {
        FourWheels x = Told.of(SMALL);
        is("telling()", x.telling(), 1);
        is("but(0)", x.but(0), 3);
        is("but(1)", x.but(1), 5);
        is("but(2)", x.but(2), 9);
        is("but(8)", x.but(8), 9);
        is("but(9)", x.but(9), -3);
        is("but(-1)", x.but(-1), -3);
        x.tries(7);
        is("tried: but(0)", x.but(0), 2);
        FourWheels y = Told.of("wheel 4;clue 5: w 0 = 0;clue 5: w 0 < 2;clue 5: w 0 > 1;");
        is("like parts, the first: telling()", y.telling(), 1);
        is("no clues: telling()", Told.of("wheel 4;").telling(), NONE);
        is("no clues: but(0)", Told.of("wheel 4;").but(0), 4);
    }

    private static void tries() {
        FourWheels x = Told.of(SMALL);
        is("tries(-1)", x.tries(-1), -3);
        is("tries(9)", x.tries(9), -3);
        is("nothing went by", x.count(4), 0);
        is("tries(8)", x.tries(8), 0);
        is("2 + 2 to turn, 3 to pull", x.count(4), 7);
        is("one wrong", x.count(10), 1);
        is("tries(8) again", x.tries(8), 0);
        is("3 to pull, 30 by the bar", x.count(4), 40);
        is("counted anew", x.count(10), 0);
        is("one unlike", x.count(11), 1);
        is("stands", x.count(7), 8);
        is("tries(6)", x.tries(6), 1);
        is("round: one step of 2, 3 to pull", x.count(4), 45);
        is("open", x.count(6), 1);
        is("none wrong", x.count(10), 0);
        is("tries(0) when open", x.tries(0), -5);
        is("tries(9) when open", x.tries(9), -3);
        FourWheels y = Told.of("wheel 5;");
        for (int i = 0; i < 12; i++) {
            y.tries(4);
        }
        is("without a bar: all", y.count(10), 12);
        is("seconds", y.count(4), 4 + 36);
        is("never open", y.count(6), 0);
    }

    private static void feel() {
        FourWheels x = Told.of(SMALL);
        is("feel(2, 9)", x.feel(2, 9), -2);
        is("feel(-1, 0)", x.feel(-1, 0), -2);
        is("feel(0, 3)", x.feel(0, 3), -3);
        is("feel(0, -1)", x.feel(0, -1), -3);
        is("feel(0, 1)", x.feel(0, 1), 0);
        is("left", x.left(), 6);
        is("feel(1, 0)", x.feel(1, 0), 1);
        is("left", x.left(), 2);
        is("seconds", x.count(4), 4);
        is("it isn't turned", x.count(7), 1);
        is("no tries", x.count(11), 0);
        x.tries(6);
        is("when open too", x.feel(0, 2), 1);
        is("seconds", x.count(4), 13);
        FourWheels y = Told.of("wheel 5;");
        is("nothing set", y.feel(0, 0), -5);
        is("nothing set, no such figure", y.feel(0, 5), -3);
        is("nothing to be undone", y.count(5), 0);
    }

    private static void undo() {
        FourWheels x = Told.of(SMALL);
        x.tries(8);
        x.feel(0, 0);
        x.tries(8);
        x.tries(6);
        is("four", x.count(5), 4);
        is("undo(5)", x.undo(5), -3);
        is("undo(0)", x.undo(0), -3);
        is("undo(-1)", x.undo(-1), -3);
        is("undo(1)", x.undo(1), 3);
        is("not open", x.count(6), 0);
        is("stands", x.count(7), 8);
        is("undo(1)", x.undo(1), 2);
        is("8 is still tried", x.likely(8), 0);
        is("unlike ones", x.count(11), 1);
        is("wrong ones", x.count(10), 1);
        is("undo(1)", x.undo(1), 1);
        is("nothing felt", x.left(), 8);
        is("undo(1)", x.undo(1), 0);
        is("nothing tried", x.left(), 9);
        is("no seconds", x.count(4), 0);
        is("stands", x.count(7), 1);
        is("no wrong ones", x.count(10), 0);
        for (int i = 0; i < 11; i++) {
            x.tries(i % 6);
        }
        is("eight at most", x.count(5), 8);
        is("undo(9)", x.undo(9), -3);
        is("undo(8)", x.undo(8), 0);
        is("three stay tried", x.count(11), 3);
        is("stands", x.count(7), 2);
    }

    private static void judgeAndPerform() {
        FourWheels x = Told.of(SMALL);
        is("judge(0, 0)", x.judge(0, 0), -6);
        is("perform(0)", x.perform(0), -6);
        is("judge(4, 0)", x.judge(4, 0), -2);
        is("judge(0, 4)", x.judge(0, 4), -2);
        is("judge(0, -1)", x.judge(0, -1), -2);
        is("perform(-1)", x.perform(-1), -2);
        is("perform(4)", x.perform(4), -2);
        Told.lay(x, 0, 8, 8, 2, 9, 1);
        is("a number that is none", x.judge(0, 0), 3);
        is("its seconds: 7 + 3 + 30 + 5", x.judge(0, 1), 45);
        is("not open", x.judge(0, 2), 0);
        is("left then", x.judge(0, 3), 7);
        is("nothing was done", x.count(4), 0);
        is("nothing was tried", x.left(), 9);
        is("nothing to be undone", x.count(5), 0);
        is("perform(0)", x.perform(0), 3);
        is("seconds", x.count(4), 45);
        is("undone as a whole", x.count(5), 1);
        is("undo(1)", x.undo(1), 0);
        is("as it was", x.left(), 9);
        Told.lay(x, 1, 8, 6, 0);
        is("behind what opens it", x.judge(1, 0), 2);
        is("open then", x.judge(1, 2), 1);
        is("left then", x.judge(1, 3), 7);
        is("perform(1)", x.perform(1), 2);
        is("open", x.count(6), 1);
        is("when open", x.judge(1, 0), 0);
        is("when open", x.judge(1, 1), 0);
        is("when open", x.judge(1, 2), 1);
        is("when open", x.perform(1), 0);
        is("that can't be undone", x.count(5), 1);
        x.numbers(2, 0, 0);
        is("an empty one", x.judge(2, 0), NONE);
        is("an empty one", x.perform(2), 0);
        x.undo(1);
        Told.lay(x, 3, 0, 1, 2);
        is("all can be", x.judge(3, 0), NONE);
        x.numbers(2, 3, 1);
        x.write(2, 0, 1L << 32);
        is("of 64 bits", x.judge(2, 0), 0);
    }

    private static void year() {
        FourWheels x = Told.of(SMALL);
        is("year(1, 0)", x.year(1, 0), -3);
        is("year(1, 31)", x.year(1, 31), -3);
        is("year(1, -1)", x.year(1, -1), -3);
        // seed 0: 12345 >>> 16 is 0: the first in order, 2, from 1: 2 + 3
        is("year(0, 1)", x.year(0, 1), 5);
        is("stands", x.count(7), 2);
        x.undo(1);
        // seed 1: 1103527590 >>> 16 is 16838, modulo 3 2: the nearest, 1
        is("year(1, 1)", x.year(1, 1), 3);
        is("stands", x.count(7), 1);
        x.undo(1);
        // seed 6: x is 2326184519 - 2^32, >>> 16 is 35494, modulo 3 1; the next draw is the k-th one left
        int draw = 1103515245 * 6 + 12345;
        is("a draw of 1", (draw >>> 16) % 3, 1);
        int k = (1103515245 * draw + 12345 >>> 16) % 9;
        x.year(6, 1);
        is("stands", x.count(7), k);
        x.undo(1);
        int seconds = x.year(77, 30);
        is("all seconds", x.count(4), seconds);
        is("one call", x.count(5), 1);
        is("open, or none left", x.count(6) == 1 || x.left() == 0 ? 1 : 0, 1);
        is("then none", x.year(77, 30), 0);
        is("that can't be undone", x.count(5), 1);
        is("undo(1)", x.undo(1), 0);
        is("as it was", x.left(), 9);
    }

    private static void stepsAndNearest() {
        FourWheels x = Told.of(SMALL);
        is("steps(0, 8)", x.steps(0, 8), 4);
        is("steps(8, 0)", x.steps(8, 0), 4);
        is("steps(4, 4)", x.steps(4, 4), 0);
        is("steps(-1, 0)", x.steps(-1, 0), -3);
        is("steps(0, 9)", x.steps(0, 9), -3);
        is("nearest()", x.nearest(), 1);
        x.tries(1);
        is("nearest()", x.nearest(), 4);
        x.tries(4);
        is("nearest()", x.nearest(), 7);
        x.undo(2);
        FourWheels y = Told.of("wheel 10 round;wheel 10;at 0 9;clue 10: w 0 > 3;");
        is("round: steps(9, 99)", y.steps(9, 99), 1);
        is("not round: steps(0, 9)", y.steps(0, 9), 9);
        is("half a round: steps(0, 50)", y.steps(0, 50), 5);
        is("nearest()", y.nearest(), 99);
        is("near(0)", y.near(0), 0);
        is("near(1)", y.near(1), 1);
        is("near(2)", y.near(2), 3);
        is("near(999)", y.near(999), 60);
        is("near(-1)", y.near(-1), -3);
    }

    private static void theWay() {
        FourWheels x = Told.of("wheel 2 stiff 9;wheel 3 stiff 4 round;wheel 2;");
        int[] way = {0, 1, 3, 2, 4, 5, 11, 10, 8, 9, 7, 6};
        int[] length = {0, 1, 5, 6, 10, 11, 20, 21, 25, 26, 30, 31};
        for (int k = 0; k < way.length; k++) {
            is("through(" + k + ")", x.through(k), way[k]);
            is("along(" + way[k] + ")", x.along(way[k]), k);
            is("length(" + (k + 1) + ")", x.length(k + 1), length[k]);
        }
        is("through(12)", x.through(12), -3);
        is("through(-1)", x.through(-1), -3);
        is("along(12)", x.along(12), -3);
        is("along(-1)", x.along(-1), -3);
        is("length(0)", x.length(0), -3);
        is("length(13)", x.length(13), -3);
        FourWheels y = Told.of(FOUR);
        is("through(9999)", y.through(9999), 9000);
        is("length(10000)", y.length(10000), 9999);
    }

    private static void bestAndShortest() {
        FourWheels x = Told.of(SMALL);
        is("best(4, 9)", x.best(4, 9), -2);
        is("best(0, 9)", x.best(0, 9), -2);
        is("best(0, 1)", x.best(0, 1), -2);
        is("best(0, 18)", x.best(0, 18), -2);
        is("best(-1, 0)", x.best(-1, 0), -2);
        is("best(0, 0)", x.best(0, 0), -6);
        is("shortest(0, 9)", x.shortest(0, 9), -2);
        is("shortest(0, 0)", x.shortest(0, 0), -6);
        x.numbers(0, 2, 0);
        is("none", x.best(0, 0), -4);
        is("none", x.shortest(0, 10), -4);
        Told.lay(x, 0, 0, 1, 2, 3, 4, 5, 6, 7, 8);
        is("nine", x.best(0, 0), -4);
        is("nine", x.shortest(0, 0), -4);
        Told.lay(x, 0, 0, 9);
        is("no number", x.best(0, 0), -3);
        Told.lay(x, 0, 0, -1);
        is("no number", x.shortest(0, 0), -3);
        Told.lay(x, 0, 3, 4, 3);
        is("two alike", x.best(0, 0), -3);
        is("two alike", x.shortest(0, 0), -3);
        // 4 is 1 from 1; 3 is 2 from it; 7 is 1 from 4: by weight 7 (5 * 40) is first, then 4 (9 * 10), then 3 (14 * 10)
        Told.lay(x, 0, 3, 4, 7);
        is("best(0, 0)", x.best(0, 0), 430);
        is("best(0, 10)", x.best(0, 10), 7);
        is("best(0, 11)", x.best(0, 11), 4);
        is("best(0, 12)", x.best(0, 12), 3);
        is("best(0, 13)", x.best(0, 13), NONE);
        is("best(0, 17)", x.best(0, 17), NONE);
        is("shortest(0, 0)", x.shortest(0, 0), 5);
        is("like ones, 4 7 3 and 7 4 3, the first by places: shortest(0, 10)", x.shortest(0, 10), 4);
        is("shortest(0, 11)", x.shortest(0, 11), 7);
        is("shortest(0, 12)", x.shortest(0, 12), 3);
        is("shortest(0, 13)", x.shortest(0, 13), NONE);
        x.tries(7);
        x.tries(1);
        is("left or not: best(0, 10)", x.best(0, 10), 7);
        is("left or not: best(0, 0)", x.best(0, 0), 430);
        // along a line, from its middle: 7 6 2 1 is as short as 6 7 2 1 and the like
        FourWheels y = Told.of("wheel 9;at 4;pull 1;");
        Told.lay(y, 0, 7, 1, 6, 2);
        is("like ones: shortest(0, 0)", y.shortest(0, 0), 9);
        is("like ones, the first by places: shortest(0, 10)", y.shortest(0, 10), 7);
        is("like ones: shortest(0, 13)", y.shortest(0, 13), 1);
        Told.lay(y, 0, 1, 7, 2, 6);
        is("like ones, the first by places: shortest(0, 10)", y.shortest(0, 10), 1);
        FourWheels z = Told.of("wheel 10;wheel 10;at 4 9;");
        int[] eight = {99, 0, 90, 9, 49, 45, 5, 54};
        Told.lay(z, 1, 99, 0, 90, 9, 49, 45, 5, 54);
        is("eight: shortest(1, 0)", z.shortest(1, 0), fewest(z, eight, 0, 49));
    }

    /** The fewest turns through all that are not done, by trying every row. */
    private static long fewest(FourWheels x, int[] numbers, int done, int at) {
        long least = done == (1 << numbers.length) - 1 ? 0 : Long.MAX_VALUE;
        for (int i = 0; i < numbers.length; i++) {
            if ((done >> i & 1) == 0) {
                least = Math.min(least, x.steps(at, numbers[i]) + fewest(x, numbers, done | 1 << i, numbers[i]));
            }
        }
        return least;
    }

    private static void saw() {
        FourWheels x = Told.of(SMALL);
        is("saw(0)", x.saw(0), 2);
        is("saw(1)", x.saw(1), 145);
        is("saw(2)", x.saw(2), 3);
        is("saw(3)", x.saw(3), -2);
        is("saw(-1)", x.saw(-1), -2);
        // one wrong already: the bar comes behind the first, 30 more; 200 of 240 are left of 5 + 60
        x.tries(1);
        is("a bar sooner: saw(0)", x.saw(0), 1);
        // 230 left; from 1: 2 is 5 away: (40 * 5 + 190 * 65) / 230
        is("a bar sooner: saw(1)", x.saw(1), 1255);
        is("a bar sooner: saw(2)", x.saw(2), 23);
        x.tries(6);
        is("open: saw(0)", x.saw(0), -5);
        is("open: saw(3)", x.saw(3), -2);
        is("no saw", Told.of("wheel 2;").saw(0), -5);
        is("none left", Told.of("wheel 2;saw 9;clue 0: 1 = 1;").saw(0), -5);
        FourWheels y = Told.of("wheel 9;saw 1;pull 9;");
        is("at once: saw(0)", y.saw(0), 0);
        is("at once: saw(1)", y.saw(1), 1);
        is("at once: saw(2)", y.saw(2), 1);
        FourWheels z = Told.of("wheel 10 round;wheel 10 round;wheel 10 round;clue 10: number < 300;pull 1;saw 999;");
        is("two hundred at most: saw(0)", z.saw(0), 200);
        FourWheels fewer = Told.of("wheel 10 round;wheel 10 round;wheel 10 round;clue 10: number < 199;pull 1;saw 999;");
        is("all of them: saw(0)", fewer.saw(0), 199);
        FourWheels like = Told.of("wheel 2;pull 1;saw 2;");
        // 2; (1 + 3) / 2 = 2; (1 + 3) / 2 = 2
        is("like ones, the first: saw(0)", like.saw(0), 0);
    }

    private static void mates() {
        FourWheels x = Told.of(SMALL);
        int[] first = {2, 5, 6, 7, 8, 0, 1, 3, 4};
        for (int k = 0; k < 9; k++) {
            is("mate(0, " + k + ")", x.mate(0, k), first[k]);
            is("mate(1, " + k + ")", x.mate(1, k), k);
        }
        is("mate(0, 9)", x.mate(0, 9), NONE);
        is("mate(0, -1)", x.mate(0, -1), -3);
        is("mate(2, -1)", x.mate(2, -1), -2);
        is("mate(-1, 0)", x.mate(-1, 0), -2);
        x.feel(0, 0);
        is("whatever was felt: mate(0, 0)", x.mate(0, 0), 2);
        x.tries(2);
        is("untried ones: mate(0, 0)", x.mate(0, 0), 5);
        is("untried ones: mate(0, 8)", x.mate(0, 8), NONE);
        FourWheels y = Told.of("wheel 4;clue 10: w 0 > 0;clue 10: w 0 < 3;clue 7: w 0 = 3;mate 0 0;mate 1;mate 2;mate 0 1 2;");
        is("with weight alone: mate(0, 0)", y.mate(0, 0), 1);
        is("with weight alone: mate(0, 3)", y.mate(0, 3), NONE);
        is("mate(2, 0)", y.mate(2, 0), 3);
        is("mate(3, 0)", y.mate(3, 0), 1);
        is("both(0, 1)", y.both(0, 1), 2);
        is("both(0, 0)", y.both(0, 0), 3);
        is("both(2, 2)", y.both(2, 2), 4);
        y.tries(1);
        is("untried: both(0, 1)", y.both(0, 1), 1);
        is("both(4, 0)", y.both(4, 0), -2);
        is("both(0, -1)", y.both(0, -1), -2);
    }

    private static void guardedAndDanger() {
        FourWheels x = Told.of(SMALL);
        is("guarded(1, 3, 0)", x.guarded(1, 3, 0), 1);
        is("guarded(1, 3, 1)", x.guarded(1, 3, 1), 4);
        is("guarded(0, 10000, 0)", x.guarded(0, 10000, 0), 1);
        is("guarded(0, 0, 1)", x.guarded(0, 0, 1), 1);
        is("guarded(0, -1, 0)", x.guarded(0, -1, 0), -3);
        is("guarded(0, 10001, 2)", x.guarded(0, 10001, 2), -2);
        is("guarded(2, -1, 0)", x.guarded(2, -1, 0), -2);
        is("danger(1)", x.danger(1), 0);
        is("danger(0), like ones, the first", x.danger(0), 0);
        is("danger(-1)", x.danger(-1), -3);
        is("danger(10001)", x.danger(10001), -3);
        x.feel(0, 1);
        // 3, 4, 5 can't be: 180 are left; mate 0 tries 2, 5, 6: 80 of these
        is("felt: guarded(0, 3, 0)", x.guarded(0, 3, 0), 4);
        is("felt: guarded(0, 3, 1)", x.guarded(0, 3, 1), 9);
        FourWheels y = Told.of("wheel 4;clue 10: w 0 = 3;mate;mate 0;");
        is("danger(1)", y.danger(1), 1);
        is("danger(3)", y.danger(3), 1);
        is("danger(4)", y.danger(4), 0);
        y.tries(3);
        is("none left: guarded(0, 1, 0)", y.guarded(0, 1, 0), -5);
        is("none left: guarded(0, -1, 0)", y.guarded(0, -1, 0), -3);
        is("none left: danger(1)", y.danger(1), -5);
        is("none left: danger(-1)", y.danger(-1), -3);
        is("none left: hidden()", y.hidden(), NONE);
        FourWheels z = Told.of("wheel 4;");
        is("no mates: danger(1)", z.danger(1), NONE);
        is("no mates: danger(-1)", z.danger(-1), -3);
        is("no mates: hidden()", z.hidden(), NONE);
        FourWheels none = Told.of("wheel 4;clue 0: 1 = 1;");
        is("no mates, none left: danger(1)", none.danger(1), -5);
    }

    private static void hiddenAndWho() {
        FourWheels x = Told.of(SMALL);
        is("hidden()", x.hidden(), 4);
        x.tries(4);
        // 8 is the 5th and the 8th, no other so late
        is("hidden()", x.hidden(), 8);
        is("who(0)", x.who(0), -6);
        is("who(4)", x.who(4), -2);
        x.numbers(0, 0, 0);
        is("none told", x.who(0), -4);
        x.numbers(0, 0, 7);
        is("seven told", x.who(0), -4);
        Told.lay(x, 0, 9);
        is("no number", x.who(0), -3);
        Told.lay(x, 0, 8, 7, 2, 6, 5);
        is("in any row", x.who(0), 1);
        Told.lay(x, 0, 4, 3, 2, 1, 0);
        is("as if nothing was tried", x.who(0), 2);
        Told.lay(x, 0, 2, 2, 2, 2, 2, 2);
        is("told twice is one", x.who(0), 1);
        Told.lay(x, 0, 2, 6);
        is("just these", x.who(0), 0);
        FourWheels y = Told.of("wheel 4;clue 10: w 0 = 0;mate 0;mate;mate;");
        Told.lay(y, 0, 0);
        is("three mates", y.who(0), 7);
        Told.lay(y, 0, 0, 1);
        is("one knows it", y.who(0), 6);
    }

    private static void rows() {
        FourWheels x = Told.of(SMALL);
        is("rows(0)", x.rows(0), -6);
        is("rows(-1)", x.rows(-1), -2);
        x.numbers(0, 3, 0);
        is("none", x.rows(0), -4);
        x.numbers(0, 3, 3);
        is("three", x.rows(0), -4);
        Told.lay(x, 0, 1000);
        is("1000", x.rows(0), -3);
        Told.lay(x, 0, 0, -1);
        is("-1", x.rows(0), -3);
        // from 1: 0 seconds 1; 1: 4; 2: 7, 0, 2; 3: 3, 5; 4: 6, 8
        int[] due = {1, 1, 3, 2, 2, 0};
        for (int t = 0; t < due.length; t++) {
            Told.lay(x, 0, t);
            is("rows of " + t, x.rows(0), due[t]);
        }
        Told.lay(x, 0, 999);
        is("rows of 999", x.rows(0), 0);
        Told.lay(x, 0, 1, 1);
        is("rows of 1, 1", x.rows(0), 2);
        Told.lay(x, 0, 2, 2);
        // from 7, 0, 2: each has two by the round wheel and one by the other
        is("rows of 2, 2", x.rows(0), 9);
        x.tries(4);
        Told.lay(x, 0, 0);
        is("left or not", x.rows(0), 1);
        FourWheels y = Told.of("wheel 10 round;wheel 10 round;wheel 10 round;wheel 10 round;");
        Told.lay(y, 0, 20, 20);
        is("the farthest", y.rows(0), 1);
        // by each wheel 1 way of 0, 2 of 1 to 4, 1 of 5: 10 in all
        Told.lay(y, 0, 1, 1);
        is("one step twice", y.rows(0), 64);
        FourWheels z = Told.of("wheel 10 stiff 9;wheel 10 stiff 9;wheel 10 stiff 9;wheel 10 stiff 9;");
        Told.lay(z, 0, 324, 324);
        is("there and back", z.rows(0), 1);
        Told.lay(z, 0, 324, 0);
        is("there and stay", z.rows(0), 1);
        Told.lay(z, 0, 0, 325);
        is("too far", z.rows(0), 0);
    }

    private static void trays() {
        FourWheels x = Told.of(SMALL);
        is("numbers(4, 0, 41)", x.numbers(4, 0, 41), -2);
        is("numbers(-1, 0, 1)", x.numbers(-1, 0, 1), -2);
        is("numbers(0, 4, 41)", x.numbers(0, 4, 41), -2);
        is("numbers(0, -1, 1)", x.numbers(0, -1, 1), -2);
        is("write(0, 0, 1)", x.write(0, 0, 1), -6);
        is("write(4, 0, 1)", x.write(4, 0, 1), -2);
        is("numbers(0, 0, 2)", x.numbers(0, 0, 2), 0);
        is("write(0, 0, 300)", x.write(0, 0, 300), 44);
        is("write(0, 1, 200)", x.write(0, 1, 200), -56);
        is("write(0, 2, 1)", x.write(0, 2, 1), -7);
        is("write(0, -1, 1)", x.write(0, -1, 1), -7);
        is("numbers(0, 0, 41)", x.numbers(0, 0, 41), -3);
        is("numbers(0, 1, -1)", x.numbers(0, 1, -1), -3);
        is("the tray stays: write(0, 1, 3)", x.write(0, 1, 3), 3);
        is("the tray stays: write(0, 0, 300)", x.write(0, 0, 300), 44);
        is("numbers(1, 1, 40)", x.numbers(1, 1, 40), 0);
        is("write(1, 39, 65537)", x.write(1, 39, 65537), 1);
        is("write(1, 0, 40000)", x.write(1, 0, 40000), -25536);
        is("numbers(2, 2, 1)", x.numbers(2, 2, 1), 0);
        is("write(2, 0, 2^32 + 5)", x.write(2, 0, (1L << 32) + 5), 5);
        is("write(2, 0, 2^31)", x.write(2, 0, 1L << 31), Integer.MIN_VALUE);
        is("numbers(3, 3, 1)", x.numbers(3, 3, 1), 0);
        is("write(3, 0, least)", x.write(3, 0, Long.MIN_VALUE), Long.MIN_VALUE);
        is("copy(4)", x.copy(4), -2);
        is("copy(-1)", x.copy(-1), -2);
        is("copy(2)", x.copy(2), 1);
        is("what came: 2", x.judge(2, 1), 5);
        is("copy(1), more places than left ones", x.copy(1), 9);
        is("the others stay: 0 to 9, then 0, the last 1", x.judge(1, 0), 3);
        x.numbers(1, 1, 6);
        x.write(1, 5, 4);
        x.tries(2);
        x.feel(0, 2);
        is("copy(1), three left", x.copy(1), 3);
        x.undo(2);
        is("6, 7, 8 and the others as they were", x.judge(1, 0), 1);
        x.numbers(1, 1, 2);
        is("all 0 again", x.judge(1, 3), 8);
        Told.shed(x, FOUR + "clue 10: number > 300;");
        x.numbers(0, 0, 1);
        is("copy(0)", x.copy(0), 1);
        x.tries(45);
        is("301 cut to 8 bits is 45: from 45", x.judge(0, 1), 3);
        is("restored trays stay", x.write(3, 0, 7), 7);
    }

    private static void images() {
        FourWheels x = Told.of(SMALL);
        is("image(2)", x.image(2), -2);
        is("image(-1)", x.image(-1), -2);
        is("restore(2)", x.restore(2), -2);
        is("restore(0)", x.restore(0), -5);
        x.tries(8);
        x.feel(0, 0);
        is("image(0)", x.image(0), 0);
        is("nothing is lost by it", x.count(5), 2);
        is("restore(1)", x.restore(1), -5);
        x.tries(7);
        x.tries(6);
        is("image(1)", x.image(1), 0);
        Told.feed(x, "pull 5;");
        is("restore(0)", x.restore(0), 0);
        is("the tape stays", x.count(8), 20);
        is("seconds", x.count(4), 9);
        is("not open", x.count(6), 0);
        is("stands", x.count(7), 8);
        is("left", x.left(), 5);
        is("wrong ones", x.count(10), 1);
        is("unlike ones", x.count(11), 1);
        is("nothing to be undone", x.count(5), 0);
        is("undo(1)", x.undo(1), -3);
        x.tries(7);
        is("one to be undone", x.undo(1), 0);
        is("left", x.left(), 5);
        x.shed(0);
        is("another shed", Told.shed(x, FOUR), 4);
        is("its numbers", x.count(1), 10000);
        is("restore(1)", x.restore(1), 0);
        is("the shed is back", x.count(1), 9);
        is("its lines", x.count(9), 10);
        is("its clues", x.holds(1, 7), 1);
        is("its mates", x.mate(0, 0), 2);
        is("open", x.count(6), 1);
        is("the fault is of the text", x.fault(0), 0);
        x.undo(1);
        is("restore(1) again", x.restore(1), 0);
        is("open", x.count(6), 1);
        x.restore(0);
        is("its weights", x.all(), 140);
        FourWheels y = new FourWheels();
        y.image(0);
        Told.shed(y, FOUR);
        y.image(1);
        y.tries(1);
        y.restore(0);
        is("none told", y.count(1), 1);
        y.restore(1);
        is("four", y.count(1), 10000);
        is("untried", y.left(), 10000);
    }

    private static void count() {
        FourWheels x = Told.of(SMALL);
        long[] due = {2, 9, 2, 2, 0, 0, 0, 1, 0, 10, 0, 0};
        for (int what = 0; what < due.length; what++) {
            is("count(" + what + ")", x.count(what), due[what]);
        }
        is("count(12)", x.count(12), NONE);
        is("count(-1)", x.count(-1), NONE);
        x.tries(3);
        Told.feed(x, "x");
        long[] then = {2, 9, 2, 2, 6, 1, 0, 3, 20, 10, 1, 1};
        for (int what = 0; what < then.length; what++) {
            is("then: count(" + what + ")", x.count(what), then[what]);
        }
    }

    public static void main(String[] args) {
        newObject();
        feed();
        shed();
        texts();
        longest();
        faultCall();
        wheel();
        holdsAndFigure();
        clues();
        likelyLeftAll();
        order();
        chanceAndMean();
        tells();
        tellingAndBut();
        tries();
        feel();
        undo();
        judgeAndPerform();
        year();
        stepsAndNearest();
        theWay();
        bestAndShortest();
        saw();
        mates();
        guardedAndDanger();
        hiddenAndWho();
        rows();
        trays();
        images();
        count();
        DUE.close("PromisesTest");
    }
}
