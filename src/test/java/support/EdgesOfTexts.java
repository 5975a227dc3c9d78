/** The edges of what a shed's text may be, and of its faults: what stands ahead of the promises, its first part. */
final class EdgesOfTexts {
    private static final String FOUR = "wheel 10;wheel 10;wheel 10;wheel 10;";
    private static final String EIGHT = "clue 5: 1 = 1;clue 5: 1 = 1;clue 5: 1 = 1;clue 5: 1 = 1;"
            + "clue 5: 1 = 1;clue 5: 1 = 1;clue 5: 1 = 1;clue 5: 1 = 1;";
    // a blank behind each token
    private static final String LONG = "wheel 3 stiff 2 round ; clue 5 : not [ 1 + ( 2 * w 0 ) < has 1 ] or sum = alike and number > 0 - 3 ; "
            + "mate 0 ; set 1 ; at 2 ; bar 1 2 ; pull 3 ; saw 4 ; ";

    private final Edges e;

    EdgesOfTexts(Edges e) {
        this.e = e;
    }

    void all() {
        calls();
        lines();
        truths();
        nests();
        wheels();
        cluesAndSeconds();
        matesSetAt();
        tokens();
        faults();
    }

    private void right(String text, int lines) {
        FourWheels x = new FourWheels();
        e.is("shed of " + text, Told.shed(x, text), lines);
        e.is("fault(0) of " + text, x.fault(0), 0);
        e.is("fault(1) of " + text, x.fault(1), FourWheels.NONE);
    }

    private void fault(String text, int kind, int place) {
        FourWheels x = new FourWheels();
        e.is("shed of " + text, Told.shed(x, text), -30 - kind);
        e.is("fault(0) of " + text, x.fault(0), kind);
        e.is("fault(1) of " + text, x.fault(1), place);
    }

    /** Whether a truth holds, for each number in order. */
    private void holds(String wheels, String truth, String due) {
        FourWheels x = Told.of(wheels + "clue 5:" + truth + ";");
        e.is("numbers of " + wheels, x.count(1), due.length());
        for (int number = 0; number < due.length(); number++) {
            e.is("holds(0, " + number + ") of " + truth, x.holds(0, number), due.charAt(number) - '0');
        }
    }

    private void calls() {
        e.of(0, "An object is used for at most 512 calls after it has been made; what later calls answer is free.");
        FourWheels x = new FourWheels();
        for (int call = 1; call <= 510; call++) {
            x.tries(0);
        }
        e.is("behind 510 tries, count(4)", x.count(4), 1530);
        e.is("the 512th call, count(10)", x.count(10), 510);
    }

    private void lines() {
        e.of(0, "THE SHED is a TEXT of at most 900 bytes");
        right("saw 1;".repeat(150), 150);
        right(" ".repeat(900), 0);
        right("saw 1;" + " ".repeat(888) + "saw 2;", 2);
        fault("saw 1;".repeat(149) + "saw 1 ", 2, 900);
        fault(" ".repeat(899) + "!", 1, 899);
        fault(" ".repeat(899) + ";", 2, 899);
        e.of(0, "(without one: no WHEELS; pull 3, no bar, no saw):");
        FourWheels x = new FourWheels();
        e.is("wheels", x.count(0), 0);
        e.is("saw(0)", x.saw(0), -5);
        for (int i = 1; i <= 12; i++) {
            x.tries(0);
            e.is("seconds of so many pulls: " + i, x.count(4), 3L * i);
            e.is("wrong ones", x.count(10), i);
        }
        e.of(0, "{ LINE ; }");
        right("", 0);
        right("pull 1;", 1);
        right("pull 1;pull 1;", 2);
        fault(";", 2, 0);
        fault("pull 1;;", 2, 7);
        fault("pull 1", 2, 6);
        fault("pull 1 pull 1;", 2, 7);
        fault("round;", 2, 0);
        fault("5;", 2, 0);
        e.of(0, "LINE: wheel N [ stiff N ] [ round ]");
        right("wheel 2;wheel 2 stiff 3;wheel 2 round;wheel 2 stiff 3 round;", 4);
        fault("wheel;", 2, 5);
        fault("wheel stiff 2;", 2, 6);
        fault("wheel round;", 2, 6);
        fault("wheel 2 stiff;", 2, 13);
        fault("wheel 2 stiff round;", 2, 14);
        fault("wheel 2 round stiff 3;", 2, 14);
        fault("wheel 2 stiff 3 stiff 3;", 2, 16);
        fault("wheel 2 round round;", 2, 14);
        fault("wheel 2 2;", 2, 8);
        fault("wheel 2 stiff 3 3;", 2, 16);
        fault("wheel 2 round 3;", 2, 14);
        e.of(0, "| clue N : TRUTH");
        right("clue 5:1=1;", 1);
        fault("clue : 1 = 1;", 2, 5);
        fault("clue 5 1 = 1;", 2, 7);
        fault("clue 5;", 2, 6);
        fault("clue 5: ;", 2, 8);
        fault("clue 5:: 1 = 1;", 2, 7);
        fault("clue 5: 1 = 1 1 = 1;", 2, 14);
        e.of(0, "| pull N");
        right("pull 1;", 1);
        fault("pull;", 2, 4);
        fault("pull 1 1;", 2, 7);
        e.of(0, "| bar N N");
        right("bar 1 1;", 1);
        fault("bar;", 2, 3);
        fault("bar 1;", 2, 5);
        fault("bar 1 1 1;", 2, 8);
        e.of(0, "| saw N");
        right("saw 1;", 1);
        fault("saw;", 2, 3);
        fault("saw 1 1;", 2, 6);
        e.of(0, "| mate { N }");
        right("mate;", 1);
        right("clue 5: 1 = 1;mate 0;mate 0 0;mate" + " 0".repeat(400) + ";", 4);
        fault("mate :;", 2, 5);
        fault("mate mate;", 2, 5);
        fault("clue 5: 1 = 1;mate 0 +;", 2, 21);
        e.of(0, "| set N { N }");
        setOrAt("set");
        e.of(0, "| at N { N }.");
        setOrAt("at");
    }

    private void setOrAt(String word) {
        int length = word.length();
        right("wheel 2;" + word + " 1;", 2);
        right("wheel 2;wheel 3;wheel 2;wheel 4;" + word + " 1 2 1 3;", 5);
        right("wheel 2;" + word + " 1;" + word + " 0;", 3);
        fault(word + ";", 2, length);
        fault(word + " 0;", 3, length + 1);
        fault(word + " 0 0;", 3, length + 1);
        fault("wheel 2;" + word + ";", 2, 8 + length);
        fault("wheel 2;" + word + " 1 1;", 2, 11 + length);
        fault("wheel 2;wheel 3;" + word + " 1;", 2, 18 + length);
        fault("wheel 2;wheel 3;" + word + " 1 1 1;", 2, 21 + length);
        fault("wheel 2;" + word + " : 1;", 2, 9 + length);
    }

    private void truths() {
        e.of(0, "TRUTH: BOTH { or BOTH };");
        holds("wheel 6;", "w 0 = 0 or w 0 = 2 or w 0 = 5", "101001");
        holds("wheel 6;", "w 0 = 0 or w 0 > 1 and w 0 < 4", "101100");
        holds("wheel 6;", "w 0 > 1 and w 0 < 4 or w 0 = 0", "101100");
        fault("clue 5: or 1 = 1;", 2, 8);
        fault("clue 5: 1 = 1 or;", 2, 16);
        fault("clue 5: 1 = 1 or or 1 = 1;", 2, 17);
        e.of(0, "BOTH: UNIT { and UNIT };");
        holds("wheel 6;", "w 0 > 0 and w 0 < 5 and not w 0 = 3", "011010");
        fault("clue 5: and 1 = 1;", 2, 8);
        fault("clue 5: 1 = 1 and;", 2, 17);
        fault("clue 5: 1 = 1 and or 1 = 1;", 2, 18);
        e.of(0, "UNIT: not UNIT, [ TRUTH ], or SUM, one of = < >, SUM.");
        holds("wheel 6;", "w 0 = 3", "000100");
        holds("wheel 6;", "w 0 < 3", "111000");
        holds("wheel 6;", "w 0 > 3", "000011");
        holds("wheel 6;", "not w 0 = 0 and w 0 < 2", "010000");
        holds("wheel 6;", "not w 0 = 0 or w 0 = 0", "111111");
        holds("wheel 6;", "not [ w 0 = 0 or w 0 = 2 ]", "010111");
        holds("wheel 6;", "[ w 0 = 0 or w 0 > 1 ] and w 0 < 4", "101100");
        holds("wheel 6;", "not not w 0 = 1", "010000");
        fault("clue 5: not;", 2, 11);
        fault("clue 5: [ ];", 2, 10);
        fault("clue 5: [ 1 ];", 2, 12);
        fault("clue 5: [ 1 = 1;", 2, 15);
        fault("clue 5: [ 1 = 1 );", 2, 16);
        fault("clue 5: 1 = 1 ];", 2, 14);
        fault("clue 5: 1;", 2, 9);
        fault("clue 5: = 1;", 2, 8);
        fault("clue 5: 1 =;", 2, 11);
        fault("clue 5: 1 < > 1;", 2, 12);
        fault("clue 5: 1 < 2 < 3;", 2, 14);
        fault("clue 5: [ 1 = 1 ] = 1;", 2, 18);
        fault("clue 5: 1 = [ 1 = 1 ];", 2, 12);
        fault("clue 5: 1 = not 1;", 2, 12);
        e.of(0, "SUM: TERM { + TERM | - TERM };");
        holds("wheel 10;", "9 - 3 - 2 = w 0", "0000100000");
        holds("wheel 10;", "9 - 3 + 2 = w 0", "0000000010");
        holds("wheel 10;", "1 + 2 + 3 = w 0", "0000001000");
        fault("clue 5: 1 + = 1;", 2, 12);
        fault("clue 5: + 1 = 1;", 2, 8);
        fault("clue 5: - 1 = 1;", 2, 8);
        fault("clue 5: 1 + - 1 = 1;", 2, 12);
        e.of(0, "TERM: ATOM { * ATOM };");
        holds("wheel 10;", "1 + 2 * 3 = w 0", "0000000100");
        holds("wheel 10;", "2 * 3 + 1 = w 0", "0000000100");
        holds("wheel 10;", "9 - 2 * 3 = w 0", "0001000000");
        holds("wheel 10;", "2 * 2 * 2 = w 0", "0000000010");
        fault("clue 5: 1 * = 1;", 2, 12);
        fault("clue 5: * 1 = 1;", 2, 8);
        e.of(0, "ATOM: N, w N, has N, sum, alike, number, ( SUM ).");
        holds("wheel 10;", "( 1 + 2 ) * 3 = w 0", "0000000001");
        holds("wheel 10;", "9 - ( 3 - 2 ) = w 0", "0000000010");
        right("clue 5: 0 = 000 and 999 = 999 and has 0 < sum + alike + number;", 1);
        fault("clue 5: ( ) = 1;", 2, 10);
        fault("clue 5: ( 1 = 1 );", 2, 12);
        fault("clue 5: ( 1 ] = 1;", 2, 12);
        fault("clue 5: 1 ) = 1;", 2, 10);
        fault("wheel 2;clue 5: w;", 2, 17);
        fault("wheel 2;clue 5: w w 0 = 1;", 2, 18);
        fault("clue 5: has;", 2, 11);
        fault("clue 5: has = 1;", 2, 12);
        fault("clue 5: sum 1 = 1;", 2, 12);
        fault("clue 5: 1 1 = 1;", 2, 10);
        fault("clue 5: pull = 1;", 2, 8);
    }

    private void nests() {
        e.of(0, "At most six of not [ ( within one another.");
        for (int deep = 1; deep <= 8; deep++) {
            for (int brackets = 0; brackets <= deep; brackets++) {
                for (int nots = 0; nots < 1 << brackets; nots++) {
                    nest(deep, brackets, nots);
                }
            }
        }
        String six = "[ [ [ ( ( ( 1 ) ) ) = 1 ] ] ]";
        right("clue 5: " + six + " and " + six + " or " + six + ";clue 5: " + six + ";", 2);
        String inner = "( ( ( ( ( ( 1 ) ) ) ) ) )";
        right("clue 5: " + inner + " + " + inner + " = " + inner + " * " + inner + ";", 1);
        right("clue 5: not not not not not not 1 = 1 and not not not not not not 1 = 1;", 1);
        right("clue 5: [ not not not not not 1 = 1 or not not not not not 1 = 1 ];", 1);
        fault("clue 5: 1 = 1 + 1 * ( ( ( ( ( ( ( 1 ) ) ) ) ) ) );", 4, 32);
        fault("clue 5: [ 1 = 1 and not not not not not not 1 = 1 ];", 4, 40);
        fault("clue 5: not not not not not not 1 = ( 1 );", 4, 36);
    }

    /** So many of not [ outside, the others ( inside; the seventh is a fault. */
    private void nest(int deep, int brackets, int nots) {
        StringBuilder text = new StringBuilder("clue 5: ");
        StringBuilder end = new StringBuilder();
        int seventh = 0;
        for (int i = 0; i < deep; i++) {
            if (i == 6) {
                seventh = text.length();
            }
            boolean isNot = i < brackets && (nots >> i & 1) == 1;
            text.append(i >= brackets ? "( " : isNot ? "not " : "[ ");
            end.insert(0, i >= brackets || isNot ? "" : "] ");
        }
        text.append("1 ").append(") ".repeat(deep - brackets)).append("= 1 ").append(end).append(";");
        if (deep <= 6) {
            right(text.toString(), 1);
        } else {
            fault(text.toString(), 4, seventh);
        }
    }

    private void wheels() {
        e.of(0, "wheel: so many FIGURES, 2 to 10 (0, 1 ..);");
        for (int n : new int[] {0, 1, 2, 3, 9, 10, 11, 12, 999}) {
            String text = "wheel " + n + ";";
            if (n < 2 || n > 10) {
                fault(text, 3, 6);
            } else {
                FourWheels x = Told.of(text);
                e.is("numbers of " + text, x.count(1), n);
                e.is("its first figure", x.figure(0, 0), 0);
                e.is("its last figure", x.figure(n - 1, 0), n - 1);
                e.is("no more figures", x.tells(0, n), -3);
            }
        }
        e.of(0, "stiff: 1 to 9 SECONDS a step (1);");
        e.is("without it", Told.of("wheel 3;").steps(0, 2), 2);
        for (int n : new int[] {0, 1, 2, 8, 9, 10, 999}) {
            String text = "wheel 3 stiff " + n + ";";
            if (n < 1 || n > 9) {
                fault(text, 3, 14);
            } else {
                e.is("a step of " + text, Told.of(text).steps(0, 1), n);
            }
        }
        e.of(0, "round: from the last figure on to 0 and back;");
        for (int n = 2; n <= 10; n++) {
            FourWheels x = Told.of("wheel " + n + " round;");
            FourWheels y = Told.of("wheel " + n + ";");
            e.is("round: on to 0, of " + n, x.steps(n - 1, 0), 1);
            e.is("round: back, of " + n, x.steps(0, n - 1), 1);
            e.is("not round: to 0, of " + n, y.steps(n - 1, 0), n - 1);
            e.is("not round: from 0, of " + n, y.steps(0, n - 1), n - 1);
        }
        e.of(0, "numbered from 0 on, 4 at most; ahead of all clues, set, at.");
        FourWheels x = Told.of("wheel 2;wheel 3;wheel 4;wheel 5;");
        e.is("wheel(0, 0)", x.wheel(0, 0), 2);
        e.is("wheel(3, 0)", x.wheel(3, 0), 5);
        e.is("wheel(4, 0)", x.wheel(4, 0), -2);
        fault("wheel 2;wheel 2;wheel 2;wheel 2;wheel 2;", 4, 32);
        right("pull 1;wheel 2;bar 1 1;wheel 2;saw 1;wheel 2;mate;wheel 2;clue 5: 1 = 1;set 0 0 0 0;at 0 0 0 0;", 11);
        fault("clue 5: 1 = 1;wheel 2;", 2, 14);
        fault("wheel 2;clue 5: 1 = 1;pull 1;wheel 2;", 2, 29);
        fault("wheel 2;set 0;wheel 2;", 2, 14);
        fault("wheel 2;at 0;wheel 2;", 2, 13);
    }

    private void cluesAndSeconds() {
        e.of(0, "clue: TRUE in so many tenths (0 to 10); numbered from 0 on, 8 at most.");
        for (int n : new int[] {0, 1, 5, 9, 10, 11, 100, 999}) {
            String text = "wheel 2;clue " + n + ": w 0 = 1;";
            if (n > 10) {
                fault(text, 3, 13);
            } else {
                FourWheels x = Told.of(text);
                e.is("likely(1) of " + text, x.likely(1), n);
                e.is("likely(0) of " + text, x.likely(0), 10 - n);
            }
        }
        FourWheels x = Told.of("wheel 8;clue 5: w 0 = 0;clue 5: w 0 = 1;clue 5: w 0 = 2;clue 5: w 0 = 3;"
                + "clue 5: w 0 = 4;clue 5: w 0 = 5;clue 5: w 0 = 6;clue 5: w 0 = 7;");
        for (int clue = 0; clue < 8; clue++) {
            e.is("holds(" + clue + ", " + clue + ")", x.holds(clue, clue), 1);
            e.is("holds(" + clue + ", the next)", x.holds(clue, (clue + 1) % 8), 0);
        }
        e.is("holds(8, 0)", x.holds(8, 0), -2);
        fault(EIGHT + "clue 5: 1 = 1;", 4, 112);
        e.of(0, "pull: SECONDS 1 to 60 (3).");
        FourWheels none = Told.of("wheel 2;");
        none.tries(0);
        e.is("without it", none.count(4), 3);
        for (int n : new int[] {0, 1, 2, 59, 60, 61, 999}) {
            String text = "pull " + n + ";";
            if (n < 1 || n > 60) {
                fault(text, 3, 5);
            } else {
                FourWheels y = Told.of(text);
                y.tries(0);
                e.is("a try of " + text, y.count(4), n);
            }
        }
        e.of(0, "bar: behind so many wrong ones (1 to 9) so many SECONDS (1 to 999).");
        for (int n : new int[] {0, 1, 2, 8, 9, 10, 999}) {
            for (int seconds : new int[] {0, 1, 500, 999}) {
                bar(n, seconds);
            }
        }
        fault("bar 1 1000;", 1, 6);
        e.of(0, "saw: SECONDS 1 to 999.");
        fault("saw 0;", 3, 4);
        fault("saw 1000;", 1, 4);
        for (int n : new int[] {1, 2, 60, 998, 999}) {
            FourWheels y = Told.of("pull 60;saw " + n + ";");
            e.is("at once, or a try: " + n, y.saw(0), n > 60 ? 1 : 0);
            e.is("seconds", y.saw(1), n > 60 ? 60 : n);
        }
    }

    private void bar(int n, int seconds) {
        String text = "pull 1;bar " + n + " " + seconds + ";";
        if (n < 1 || n > 9) {
            fault(text, 3, 11);
            return;
        }
        if (seconds == 0) {
            fault(text, 3, 13);
            return;
        }
        FourWheels x = Told.of(text);
        for (int i = 1; i <= 2 * n + 1; i++) {
            x.tries(0);
            e.is(text + " seconds of so many wrong ones: " + i, x.count(4), i + (long) (i / n) * seconds);
            e.is(text + " wrong ones of so many: " + i, x.count(10), i % n);
        }
    }

    private void matesSetAt() {
        e.of(0, "mate: CLUES told ahead that it knows; numbered from 0 on, 4 at most.");
        FourWheels x = Told.of("wheel 4;clue 7: w 0 = 3;clue 9: w 0 = 2;mate;mate 0;mate 1;mate 0 1;");
        int[] first = {0, 3, 2, 2};
        for (int m = 0; m < 4; m++) {
            e.is("mate(" + m + ", 0)", x.mate(m, 0), first[m]);
        }
        e.is("mate(4, 0)", x.mate(4, 0), -2);
        fault("mate 0;clue 5: 1 = 1;", 3, 5);
        fault("clue 5: 1 = 1;mate 0 1;clue 5: 1 = 1;", 3, 21);
        right(EIGHT + "mate 0 1 2 3 4 5 6 7;", 9);
        fault(EIGHT + "mate 7 8;", 3, 119);
        fault("mate;mate;mate;mate;mate;", 4, 20);
        e.of(0, "set: what opens it, at: how the WHEELS stand (all 0 without): a figure of each WHEEL.");
        FourWheels y = Told.of("wheel 2;wheel 3;set 1 2;at 1 0;");
        e.is("how they stand", y.count(7), 3);
        e.is("wheel(0, 3)", y.wheel(0, 3), 1);
        e.is("wheel(1, 3)", y.wheel(1, 3), 0);
        e.is("another one", y.tries(4), 0);
        e.is("what opens it", y.tries(5), 1);
        FourWheels z = Told.of("wheel 2;wheel 3;");
        e.is("without at", z.count(7), 0);
        e.is("without set", z.feel(0, 0), -5);
        for (int number = 0; number < 6; number++) {
            e.is("without set", z.tries(number), 0);
        }
        fault("wheel 2;wheel 3;set 2 0;", 3, 20);
        fault("wheel 2;wheel 3;set 1 3;", 3, 22);
        fault("wheel 2;wheel 3;at 2 0;", 3, 19);
        fault("wheel 2;wheel 3;at 1 3;", 3, 21);
        e.of(0, "Later ones of pull, bar, saw, set, at strike.");
        FourWheels later = Told.of("wheel 2;pull 5;pull 7;bar 9 9;bar 1 8;saw 1;saw 999;set 0;set 1;at 1;at 0;");
        e.is("at", later.count(7), 0);
        e.is("saw: by 1 it would be at once", later.saw(0), 2);
        e.is("set", later.tries(0), 0);
        e.is("pull and bar", later.count(4), 15);
        e.is("set", later.tries(1), 1);
        e.is("pull", later.count(4), 23);
    }

    private void tokens() {
        e.of(0, "TOKENS, as long as they go on,");
        right("wheel2stiff3round;clue5:not[w0=1]or(2)>has1;", 2);
        fault("wheelround;", 2, 0);
        fault("wheel 2 stiffround;", 2, 8);
        fault("wheel 2;clue 5: notw 0 = 1;", 2, 16);
        fault("wheel 2;clue 5: w 01 = 1;", 3, 18);
        FourWheels x = Told.of("pull 12;");
        x.tries(0);
        e.is("a pull of 12, none of 1", x.count(4), 12);
        fault("pull 1 2;", 2, 7);
        e.of(0, "between them blanks (10, 32):");
        right("\n \n  pull\n1 \n;\n", 1);
        right("pull 1;", 1);
        fault("pull\t1;", 1, 4);
        fault("pull 1;\r\n", 1, 7);
        fault("pull 1 1;", 2, 7);
        fault("pu ll 1;", 2, 0);
        e.of(0, "words (small letters),");
        for (String word : new String[] {"wheel 2", "clue 5: 1 = 1", "pull 1", "bar 1 1", "saw 1", "mate"}) {
            right(word + ";", 1);
            int length = word.indexOf(' ') < 0 ? word.length() : word.indexOf(' ');
            fault(word.substring(0, length - 1) + word.substring(length) + ";", 2, 0);
            fault(word.substring(0, length) + "s" + word.substring(length) + ";", 2, 0);
            fault("s" + word + ";", 2, 0);
        }
        for (String word : new String[] {"su", "sums", "alik", "alikes", "numbe", "numbers", "ha", "hass", "no", "nots", "v", "ww", "orr", "ann"}) {
            fault("clue 5: " + word + " 0 = 1;", 2, 8);
        }
        fault("Pull 1;", 1, 0);
        fault("pulL 1;", 2, 0);
        fault("pull 1;L", 1, 7);
        e.of(0, "N (1 to 3 digits),");
        right("pull 1;pull 01;pull 001;pull 060;", 4);
        fault("pull 0001;", 1, 5);
        right("clue 5: 999 > 998;", 1);
        fault("clue 5: 1000 > 999;", 1, 8);
        e.of(0, "the signs ; : + - * ( ) [ ] = < >.");
        for (int sign = 0; sign < 256; sign++) {
            boolean begins = sign >= 'a' && sign <= 'z' || sign >= '0' && sign <= '9' || ";:+-*()[]=<>".indexOf(sign) >= 0;
            if (sign == 10 || sign == 32) {
                right("" + (char) sign, 0);
            } else {
                fault("" + (char) sign, begins ? 2 : 1, 0);
                fault("pull 1;;" + (char) sign, 2, 7);
            }
        }
    }

    private void faults() {
        e.of(0, "FAULTS, the first along the text, of one TOKEN the least kind:");
        fault("pull 61 !;", 3, 5);
        fault("pull ! 61;", 1, 5);
        fault("pull x 61;", 2, 5);
        fault("pull 61 pull 62;", 3, 5);
        fault("mate 0 mate 1000;", 3, 5);
        fault("mate;mate;mate;mate;mate 9 !;", 4, 20);
        fault("wheel 2;wheel 2;wheel 2;wheel 2;clue 5: 1 = 1;wheel 2;", 2, 46);
        fault("wheel 2;wheel 2;wheel 2;wheel 2;at 0 0 0 0;wheel 99;", 2, 43);
        fault("wheel 2;set 0 9;", 2, 14);
        fault("wheel 2;set 0 1000;", 1, 14);
        fault("clue 5: [ [ [ [ [ [ 1 [;", 2, 22);
        fault("clue 5: [ [ [ [ [ [ 1 = 1 and not", 4, 30);
        fault("clue 5: ( ( ( ( ( ( not", 2, 20);
        everyPart();
        e.of(0, "1 no TOKEN begins so (4 digits and more: at their first).");
        fault("pull 1000;", 1, 5);
        fault("pull 00000;", 1, 5);
        fault("pull 99999999999999999999999;", 1, 5);
        fault("pull 12 345678;", 1, 8);
        everyTokenIs("!", 1);
        everyTokenIs("0000", 1);
        e.of(0, "2 it can't stand there (the end: the text's length; wheel behind a clue, set, at: at its first TOKEN).");
        everyTokenIs("zz", 2);
        everyTokenIs("stiffround", 2);
        everyEnd();
        fault("clue 5: 1 = 1;wheel 11;", 2, 14);
        fault("wheel 2;set 0;  wheel;", 2, 16);
        fault("wheel 2;at 0;\nwheel!", 2, 14);
        e.of(0, "3 an N out of its bounds (a WHEEL, a CLUE that isn't told; a figure that it hasn't).");
        fault("clue 5: w 0 = 1;", 3, 10);
        for (int w = 1; w <= 4; w++) {
            right("wheel 2;".repeat(w) + "clue 5: w " + (w - 1) + " = 1;", w + 1);
            fault("wheel 2;".repeat(w) + "clue 5: w " + w + " = 1;", 3, 8 * w + 10);
        }
        right(FOUR + "clue 5: has 9 = 1;", 5);
        fault(FOUR + "clue 5: has 10 = 1;", 3, 48);
        fault("mate 0;", 3, 5);
        fault("clue 5: 1 = 1;mate 1;", 3, 19);
        fault("wheel 2;wheel 10;at 1 10;", 3, 22);
        right("wheel 2;wheel 10;at 1 9;", 3);
        e.of(0, "4 the first TOKEN of a 5th wheel, a 9th clue, a 5th mate; a seventh of not [ (.");
        fault(FOUR + "pull 1; wheel 2;", 4, 44);
        fault(FOUR + "wheel", 4, 36);
        fault(EIGHT + "clue", 4, 112);
        fault(EIGHT + "pull 1; clue 11;", 4, 120);
        fault("mate;mate;mate;mate;pull 1; mate 9;", 4, 28);
        fault("mate;mate;mate;mate;mate", 4, 20);
        fault("clue 5: [ not [ not [ not [", 4, 26);
        fault("clue 5: [ not [ not [ not not", 4, 26);
        fault("clue 5: [ not [ not [ not (", 4, 26);
    }

    /** A fault in each part of a truth, with others behind it. */
    private void everyPart() {
        String[] parts = {"", "1 = 1 or ", "1 = 1 and ", "1 = 1 or 2 = 2 and ", "not ", "[ ", "[ 1 = 1 or ", "[ 1 = 1 and ", "not [ not [ ",
            "1 = ", "1 < ", "1 > ", "1 + ", "1 - ", "1 * ", "1 + 2 * ", "( ", "( ( 1 + ", "( 1 * ", "1 = 1 + ", "1 = 1 * ", "1 = ( ", "[ ( 1 ) = ( 2 - "};
        for (String part : parts) {
            String text = "wheel 2;clue 5: " + part;
            int at = text.length();
            int deep = part.replace("not", "[").replaceAll("[^\\[(]|\\( 1 \\)", "").length();
            fault(text + "! w 9", 1, at);
            fault(text + "1000 w 9", 1, at);
            fault(text + "; wheel 1 !", 2, at);
            fault(text + "or ! w 9", 2, at);
            fault(text, 2, at);
            fault(text + "w 1 !", 3, at + 2);
            fault(text + "has 10 pull", 3, at + 4);
            fault(text + "( ".repeat(7 - deep) + "!", 4, at + 2 * (6 - deep));
            fault(text + "( ".repeat(6 - deep) + "!", 1, at + 2 * (6 - deep));
        }
    }

    /** Each token of a right text in turn is one that can't be there. */
    private void everyTokenIs(String other, int kind) {
        right(LONG, 8);
        int from = 0;
        while (from < LONG.length()) {
            int end = LONG.indexOf(' ', from);
            fault(LONG.substring(0, from) + other + LONG.substring(end), kind, from);
            from = end + 1;
        }
    }

    /** A right text cut behind each token, with and without the blank. */
    private void everyEnd() {
        int lines = 0;
        for (int end = LONG.indexOf(' '); end >= 0; end = LONG.indexOf(' ', end + 1)) {
            boolean whole = LONG.charAt(end - 1) == ';';
            lines += whole ? 1 : 0;
            for (int cut = end; cut <= end + 1; cut++) {
                if (whole) {
                    right(LONG.substring(0, cut), lines);
                } else {
                    fault(LONG.substring(0, cut), 2, cut);
                }
            }
        }
    }
}
