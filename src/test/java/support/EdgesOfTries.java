/** The edges of promises 17 to 22: what is tried, felt, undone, judged, done, and a year. */
final class EdgesOfTries {
    private static final int NONE = FourWheels.NONE;
    private static final int[] FAR = {Integer.MIN_VALUE, -2, -1, Integer.MAX_VALUE};
    private static final String SMALL = "wheel 3;wheel 3 stiff 2 round;clue 8: has 2 = 1;clue 5: sum > 2;bar 2 30;saw 60;"
            + "mate 0;mate;set 2 0;at 0 1;";

    private final Edges e;

    EdgesOfTries(Edges e) {
        this.e = e;
    }

    void all() {
        promise17();
        promise18();
        promise19();
        promise19Kinds();
        promise20();
        promise20Nothing();
        promise21();
        promise22();
        promise22Ends();
    }

    private void promise17() {
        e.of(17, "A TRY: 1 if it is OPEN then, else 0.");
        FourWheels x = Told.of("wheel 10;wheel 10;wheel 10;wheel 10;set 9 9 9 9;");
        e.is("tries(0)", x.tries(0), 0);
        e.is("tries(9998)", x.tries(9998), 0);
        e.is("tries(9998) again", x.tries(9998), 0);
        e.is("tries(9999)", x.tries(9999), 1);
        FourWheels none = new FourWheels();
        e.is("no WHEELS: tries(0)", none.tries(0), 0);
        e.is("no WHEELS: tries(0) again", none.tries(0), 0);
        FourWheels weightless = Told.of("wheel 2;clue 0: w 0 = 1;set 1;");
        e.is("without weight it opens all the same", weightless.tries(1), 1);
        FourWheels felt = Told.of("wheel 2;set 1;");
        felt.feel(0, 1);
        e.is("felt otherwise it can be tried", felt.tries(0), 0);
        e.of(17, "-3: no such NUMBER;");
        for (int number : FAR) {
            e.is("tries(" + number + ")", none.tries(number), -3);
        }
        e.is("tries(1) without WHEELS", none.tries(1), -3);
        e.is("tries(10000)", x.tries(10000), -3);
        e.is("tries(-1), though it is OPEN", x.tries(-1), -3);
        e.of(17, "-5: it is OPEN.");
        e.is("tries(9999)", x.tries(9999), -5);
        e.is("tries(0)", x.tries(0), -5);
    }

    private void promise18() {
        e.of(18, "To FEEL: 1 if it is that figure, else 0.");
        FourWheels x = Told.of("wheel 10;wheel 2;set 9 0;");
        for (int figure = 0; figure < 10; figure++) {
            e.is("feel(0, " + figure + ")", x.feel(0, figure), figure == 9 ? 1 : 0);
        }
        e.is("feel(1, 1)", x.feel(1, 1), 0);
        e.is("feel(1, 0)", x.feel(1, 0), 1);
        e.is("seconds", x.count(4), 24);
        x.tries(18);
        e.is("when OPEN, too", x.feel(0, 9), 1);
        e.of(18, "-2: the WHEEL;");
        for (int w : FAR) {
            e.is("feel(" + w + ", 0)", x.feel(w, 0), -2);
            e.is("feel(" + w + ", 99)", x.feel(w, 99), -2);
        }
        e.is("feel(2, 0)", x.feel(2, 0), -2);
        e.is("no WHEELS", new FourWheels().feel(0, 0), -2);
        e.is("nothing set: feel(1, 0)", Told.of("wheel 2;").feel(1, 0), -2);
        e.of(18, "-3: the figure;");
        for (int figure : FAR) {
            e.is("feel(0, " + figure + ")", x.feel(0, figure), -3);
        }
        e.is("feel(0, 10)", x.feel(0, 10), -3);
        e.is("feel(1, 2)", x.feel(1, 2), -3);
        e.is("nothing set: feel(0, 2)", Told.of("wheel 2;").feel(0, 2), -3);
        e.of(18, "-5: nothing was set.");
        FourWheels none = Told.of("wheel 2;");
        e.is("feel(0, 0)", none.feel(0, 0), -5);
        e.is("feel(0, 1)", none.feel(0, 1), -5);
        e.is("no seconds", none.count(4), 0);
        e.is("not to be undone", none.count(5), 0);
        e.is("0 was set", Told.of("wheel 2;set 0;").feel(0, 0), 1);
    }

    private void promise19() {
        e.of(19, "n calls (1 to 8) are UNDONE: how many still can be.");
        for (int done = 1; done <= 10; done++) {
            for (int n = 1; n <= Math.min(8, done); n++) {
                FourWheels x = Told.of("wheel 10;wheel 10;at 9 9;");
                for (int number = 0; number < done; number++) {
                    x.tries(number);
                }
                e.is("undo(" + n + ") behind " + done, x.undo(n), Math.min(8, done) - n);
                e.is("that many stay tried", x.count(11), done - n);
                e.is("how it stands", x.count(7), n == done ? 99 : done - n - 1);
                e.is("wrong ones", x.count(10), done - n);
            }
        }
        e.of(19, "-3: n, more than can be.");
        FourWheels x = Told.of("wheel 10;wheel 10;");
        e.is("undo(1) of none", x.undo(1), -3);
        for (int done = 1; done <= 10; done++) {
            x.tries(done);
            int can = Math.min(8, done);
            e.is("undo(" + (can + 1) + ") behind " + done, x.undo(can + 1), -3);
            e.is("undo(0)", x.undo(0), -3);
            e.is("as many can be", x.count(5), can);
        }
        for (int n : FAR) {
            e.is("undo(" + n + ")", x.undo(n), -3);
        }
        e.is("undo(8)", x.undo(8), 0);
        e.is("undo(1)", x.undo(1), -3);
        e.is("two stay", x.count(11), 2);
    }

    private void promise19Kinds() {
        e.of(19, "are UNDONE");
        FourWheels x = Told.of("wheel 4;wheel 4;set 3 3;bar 3 7;");
        String[] before = new String[4];
        before[0] = seen(x);
        x.tries(5);
        before[1] = seen(x);
        x.feel(1, 3);
        before[2] = seen(x);
        Told.lay(x, 0, 5, 6, 5, 7);
        x.perform(0);
        before[3] = seen(x);
        x.year(9, 30);
        e.is("three were left, the year opened it", x.count(6), 1);
        for (int i = 3; i >= 0; i--) {
            e.is("undo(1)", x.undo(1), i);
            e.same("back to " + i, seen(x), before[i]);
        }
    }

    /** Without the tray's part, which no call undoes. */
    private static String seen(FourWheels x) {
        return Look.at(x).replaceAll(" judge .*", "");
    }

    private void promise20() {
        e.of(20, "EVENINGS, judged as if tried, what 0: the first place that can't be (NONE),");
        FourWheels x = Told.of(SMALL);
        Told.lay(x, 0, 0, 1, 2);
        e.is("all can be", x.judge(0, 0), NONE);
        Told.lay(x, 0, -1, 1, 2);
        e.is("the first can't", x.judge(0, 0), 0);
        Told.lay(x, 0, 0, 1, 9);
        e.is("the last can't", x.judge(0, 0), 2);
        Told.lay(x, 0, 0, 1, 6);
        e.is("the last opens it", x.judge(0, 0), NONE);
        Told.lay(x, 0, 0, 6, 1);
        e.is("behind what opens it", x.judge(0, 0), 2);
        Told.lay(x, 0, 6, 6);
        e.is("what opens it again", x.judge(0, 0), 1);
        Told.lay(x, 0, 2, 2, 2);
        e.is("one and the same", x.judge(0, 0), NONE);
        x.numbers(0, 3, 0);
        e.is("none", x.judge(0, 0), NONE);
        x.numbers(0, 3, 40);
        e.is("forty", x.judge(0, 0), NONE);
        x.write(0, 39, 1L << 32);
        e.is("the fortieth is beyond an int", x.judge(0, 0), 39);
        e.of(20, "1: SECONDS these take,");
        Told.lay(x, 0, 8, 8, 2, 9, 1);
        // 2 + 2 and 3; 3 and 30; 2 and 3; 9 can't be
        e.is("till the one that can't be", x.judge(0, 1), 45);
        Told.lay(x, 0, 9, 1);
        e.is("none can be", x.judge(0, 1), 0);
        Told.lay(x, 0, 1, 6, 0);
        e.is("till it is open: 3 and 2 + 2 + 3", x.judge(0, 1), 10);
        x.tries(0);
        e.is("those ahead don't count, but their wrong ones do: 2 + 3 + 30 and 7", x.judge(0, 1), 42);
        e.of(20, "2: 1 if it is OPEN then, else 0,");
        e.is("open", x.judge(0, 2), 1);
        e.is("not now", x.count(6), 0);
        Told.lay(x, 0, 1, 9, 6);
        e.is("behind one that can't be", x.judge(0, 2), 0);
        x.numbers(0, 0, 0);
        e.is("none", x.judge(0, 2), 0);
        e.of(20, "3: how many are LEFT then.");
        e.is("none", x.judge(0, 3), 8);
        Told.lay(x, 0, 0, 1, 1, 9, 2);
        e.is("0 was tried, 1 counts once, 9 can't be", x.judge(0, 3), 7);
        Told.lay(x, 0, 6);
        e.is("what opens it isn't LEFT", x.judge(0, 3), 7);
        x.feel(0, 1);
        Told.lay(x, 0, 4, 7);
        // 3, 4, 5 aren't LEFT
        e.is("felt otherwise", x.judge(0, 3), 4);
    }

    private void promise20Nothing() {
        e.of(20, "judged as if tried");
        FourWheels x = Told.of(SMALL);
        x.tries(8);
        x.feel(0, 0);
        Told.lay(x, 0, 8, 7, 5, 5, 6);
        String before = Look.at(x);
        for (int what = 0; what < 4; what++) {
            x.judge(0, what);
        }
        e.same("nothing was done", Look.at(x), before);
        e.is("undo(2)", x.undo(2), 0);
        e.is("left()", x.left(), 9);
        x.tries(6);
        e.is("when OPEN: judge(0, 0)", x.judge(0, 0), 0);
        e.is("when OPEN: judge(0, 1)", x.judge(0, 1), 0);
        e.is("when OPEN: judge(0, 2)", x.judge(0, 2), 1);
        e.is("when OPEN: judge(0, 3)", x.judge(0, 3), 8);
        x.numbers(0, 0, 0);
        e.is("when OPEN, none: judge(0, 0)", x.judge(0, 0), NONE);
        FourWheels full = Told.of("wheel 10;wheel 10;at 5 5;set 0 0;bar 3 40;");
        Told.lay(full, 0, 70, 71, 72, 0);
        Told.lay(full, 1, -1);
        for (int i = 1; i <= 9; i++) {
            full.tries(10 * i);
        }
        for (int what = 0; what < 4; what++) {
            full.judge(0, what);
        }
        e.is("none can be: perform(1)", full.perform(1), 0);
        e.is("eight can still be undone", full.undo(8), 0);
        e.is("how it stands", full.count(7), 10);
        e.is("seconds", full.count(4), 12);
        e.is("wrong ones", full.count(10), 1);
        e.is("left", full.left(), 99);
        e.of(20, "-2: the TRAY, what;");
        for (int at : FAR) {
            e.is("judge(" + at + ", 0)", x.judge(at, 0), -2);
            e.is("judge(0, " + at + ")", x.judge(0, at), -2);
            e.is("judge(1, " + at + "), missing", x.judge(1, at), -2);
        }
        e.is("judge(4, 0)", x.judge(4, 0), -2);
        e.is("judge(0, 4)", x.judge(0, 4), -2);
        e.of(20, "-6.");
        for (int what = 0; what < 4; what++) {
            e.is("judge(3, " + what + ")", x.judge(3, what), -6);
        }
    }

    private void promise21() {
        e.of(21, "They are tried, till one can't be: how many.");
        FourWheels x = Told.of(SMALL);
        x.numbers(0, 0, 0);
        e.is("none", x.perform(0), 0);
        Told.lay(x, 0, 9, 1);
        e.is("the first can't be", x.perform(0), 0);
        e.is("no seconds", x.count(4), 0);
        e.is("not to be undone", x.count(5), 0);
        Told.lay(x, 0, 8, 8, 2, -1, 1);
        e.is("three", x.perform(0), 3);
        e.is("seconds", x.count(4), 45);
        e.is("stands", x.count(7), 2);
        e.is("unlike ones", x.count(11), 2);
        e.is("wrong ones since a bar", x.count(10), 1);
        e.is("one to be undone", x.count(5), 1);
        Told.lay(x, 0, 7, 6, 6);
        e.is("till it is open", x.perform(0), 2);
        e.is("open", x.count(6), 1);
        e.is("when OPEN", x.perform(0), 0);
        e.is("two to be undone", x.count(5), 2);
        e.is("undo(1)", x.undo(1), 1);
        e.is("as a whole", x.count(4), 45);
        e.is("undo(1)", x.undo(1), 0);
        e.is("as a whole", x.left(), 9);
        Told.lay(x, 0, 5, 9);
        e.is("one", x.perform(0), 1);
        e.is("to be undone", x.undo(1), 0);
        e.is("as it was", x.left(), 9);
        FourWheels y = Told.of("wheel 10;wheel 10;");
        y.numbers(3, 0, 40);
        for (int i = 0; i < 40; i++) {
            y.write(3, i, i);
        }
        e.is("forty", y.perform(3), 40);
        e.is("left", y.left(), 60);
        e.is("undo(1)", y.undo(1), 0);
        e.is("all forty", y.left(), 100);
        e.is("none tried", y.count(11), 0);
        e.of(21, "-2; -6.");
        for (int tray : FAR) {
            e.is("perform(" + tray + ")", y.perform(tray), -2);
        }
        e.is("perform(4)", y.perform(4), -2);
        e.is("perform(0)", y.perform(0), -6);
    }

    private void promise22() {
        e.of(22, "A YEAR: SECONDS.");
        FourWheels x = Told.of(SMALL);
        // 12345 >>> 16 is 0: the first in ORDER, 2: a step of 2, 3
        e.is("year(0, 1)", x.year(0, 1), 5);
        e.is("stands", x.count(7), 2);
        x.undo(1);
        // 1103527590 >>> 16 is 16838, modulo 3 2: the nearest, 1
        e.is("year(1, 1)", x.year(1, 1), 3);
        e.is("stands", x.count(7), 1);
        // from 1, which is tried: the year's own seconds, and the bar that it brings: 2 is first, 5, 30
        e.is("year(0, 1)", x.year(0, 1), 35);
        e.is("all of them", x.count(4), 38);
        x.undo(2);
        // an x below 0: 1103515245 * 2 + 12345 is over 2^31, its >>> 16 is 33676 and more
        int draw = 1103515245 * 2 + 12345;
        e.is("below 0", draw < 0 ? 1 : 0, 1);
        int way = (draw >>> 16) % 3;
        e.is("by its modulo", way >= 0 ? 1 : 0, 1);
        x.year(2, 1);
        int k = (1103515245 * draw + 12345 >>> 16) % 9;
        int[] due = {2, k, 1};
        e.is("stands", x.count(7), due[way]);
        e.of(22, "-3: how many times.");
        for (int times : FAR) {
            e.is("year(1, " + times + ")", x.year(1, times), -3);
        }
        e.is("year(1, 0)", x.year(1, 0), -3);
        e.is("year(1, 31)", x.year(1, 31), -3);
        FourWheels big = Told.of("wheel 10;wheel 10;wheel 10;wheel 10;pull 1;");
        big.year(5, 30);
        e.is("thirty", big.count(11), 30);
        big.year(5, 1);
        e.is("one", big.count(11), 31);
        e.is("two to be undone", big.undo(2), 0);
    }

    private void promise22Ends() {
        e.of(22, "A YEAR");
        FourWheels x = Told.of("wheel 2;wheel 2;clue 10: number > 0;pull 1;");
        x.year(3, 30);
        e.is("three have WEIGHT, all are tried", x.count(11), 3);
        e.is("none left", x.left(), 0);
        e.is("none left: year(3, 30)", x.year(3, 30), 0);
        e.is("not to be undone", x.count(5), 1);
        e.is("none left: year(3, 31)", x.year(3, 31), -3);
        FourWheels open = Told.of("wheel 2;clue 10: w 0 = 1;set 1;");
        e.is("one try opens it: a step, 3", open.year(4, 30), 4);
        e.is("open", open.count(6), 1);
        e.is("when OPEN: year(4, 30)", open.year(4, 30), 0);
        e.is("when OPEN: year(4, 0)", open.year(4, 0), -3);
        e.is("not to be undone", open.count(5), 1);
        e.is("as a whole", open.undo(1), 0);
        e.is("not open", open.count(6), 0);
        FourWheels felt = Told.of("wheel 9;set 4;");
        felt.feel(0, 4);
        e.is("one left: 4 steps, 3", felt.year(7, 30), 7);
    }
}
