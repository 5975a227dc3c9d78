/** The edges of promises 39 to 44: trays, images, counts. */
final class EdgesOfTrays {
    private static final int NONE = FourWheels.NONE;
    private static final int[] FAR = {Integer.MIN_VALUE, -2, -1, Integer.MAX_VALUE};
    private static final String FOUR = "wheel 10;wheel 10;wheel 10;wheel 10;";
    private static final String SMALL = "wheel 3;wheel 3 stiff 2 round;clue 8: has 2 = 1;clue 5: sum > 2;bar 2 30;saw 60;"
            + "mate 0;mate;set 2 0;at 0 1;";

    private final Edges e;

    EdgesOfTrays(Edges e) {
        this.e = e;
    }

    void all() {
        promise39();
        promise40();
        promise40Stays();
        promise41();
        promise42();
        promise43();
        promise43Sheds();
        promise44();
    }

    /** Whether a tray has so many, all of them 0. */
    private void hasZeros(FourWheels x, int tray, int n) {
        e.is("number " + (n - 1), n == 0 ? 0 : x.write(tray, n - 1, 0), 0);
        e.is("number " + n, x.write(tray, n, 0), -7);
    }

    private void promise39() {
        e.of(39, "A TRAY has n numbers of a sort, all 0 (in place of another one): 0.");
        FourWheels x = Told.of("wheel 2;wheel 2;pull 1;at 1 1;");
        for (int tray = 0; tray < 4; tray++) {
            for (int sort = 0; sort < 4; sort++) {
                for (int n : new int[] {40, 1, 0, 39, 2}) {
                    e.is("numbers(" + tray + ", " + sort + ", " + n + ")", x.numbers(tray, sort, n), 0);
                    hasZeros(x, tray, n);
                    // 0 is 2 away, then none: all are 0
                    e.is("all 0: judge", x.judge(tray, 1), n == 0 ? 0 : n + 2);
                    for (int i = 0; i < n && i < 3; i++) {
                        x.write(tray, i, 3);
                    }
                }
            }
        }
        FourWheels y = Told.of(SMALL);
        Told.lay(y, 1, 8, 7);
        Told.lay(y, 2, 6);
        y.numbers(1, 0, 3);
        e.is("all 0, in place of 8 and 7: 2 and 3, 3 and 30, 3", y.judge(1, 1), 41);
        e.is("the others stay", y.judge(2, 2), 1);
        e.is("-128 by its new sort", y.write(1, 0, 128), -128);
        y.numbers(1, 1, 3);
        e.is("128 by its new sort", y.write(1, 0, 128), 128);
        e.of(39, "-2: no such TRAY, sort;");
        for (int at : FAR) {
            e.is("numbers(" + at + ", 0, 1)", y.numbers(at, 0, 1), -2);
            e.is("numbers(0, " + at + ", 1)", y.numbers(0, at, 1), -2);
            e.is("numbers(0, " + at + ", 41)", y.numbers(0, at, 41), -2);
        }
        e.is("numbers(4, 0, 1)", y.numbers(4, 0, 1), -2);
        e.is("numbers(0, 4, 1)", y.numbers(0, 4, 1), -2);
        e.is("numbers(4, 0, -1)", y.numbers(4, 0, -1), -2);
        e.is("0 is still missing", y.perform(0), -6);
        e.of(39, "-3, and the TRAY stays: n is below 0 or above 40.");
        for (int n : FAR) {
            e.is("numbers(0, 0, " + n + ")", y.numbers(0, 0, n), -3);
            e.is("numbers(2, 0, " + n + ")", y.numbers(2, 0, n), -3);
        }
        e.is("numbers(0, 0, 41)", y.numbers(0, 0, 41), -3);
        e.is("numbers(2, 0, 41)", y.numbers(2, 0, 41), -3);
        e.is("0 is still missing", y.perform(0), -6);
        e.is("2 has still its one", y.judge(2, 2), 1);
        e.is("of its sort", y.write(2, 0, 70000), 70000);
        e.is("and no more", y.write(2, 1, 1), -7);
    }

    private void promise40() {
        e.of(40, "Number i of a TRAY is v, cut to its sort: as it is there.");
        FourWheels x = Told.of(SMALL);
        long[] values = {0, 1, -1, 127, 128, -128, -129, 255, 256, 257, 32767, 32768, -32768, -32769, 65535, 65536, 65537,
            Integer.MAX_VALUE, 1L + Integer.MAX_VALUE, Integer.MIN_VALUE, Integer.MIN_VALUE - 1L, 4294967295L, 4294967296L, 4294967297L,
            Long.MAX_VALUE, Long.MIN_VALUE};
        for (int sort = 0; sort < 4; sort++) {
            x.numbers(sort, sort, 40);
            for (int i = 0; i < values.length; i++) {
                long v = values[i];
                long due = sort == 0 ? (byte) v : sort == 1 ? (short) v : sort == 2 ? (int) v : v;
                e.is("sort " + sort + ": " + v, x.write(sort, i, v), due);
            }
        }
        // 256 is 0 by 8 bits, 65542 6 by 16
        x.numbers(0, 0, 2);
        x.write(0, 0, 256 + 8);
        x.write(0, 1, 6);
        e.is("what is there counts: 4 and 3, then 2 and 3", x.judge(0, 1), 12);
        x.numbers(1, 1, 1);
        x.write(1, 0, 65542);
        e.is("6 opens it", x.judge(1, 2), 1);
        x.numbers(2, 2, 1);
        x.write(2, 0, 65542);
        e.is("no such number", x.judge(2, 0), 0);
        e.of(40, "-2: no such TRAY;");
        for (int tray : FAR) {
            e.is("write(" + tray + ", 0, 1)", x.write(tray, 0, 1), -2);
        }
        e.is("write(4, 0, 1)", x.write(4, 0, 1), -2);
        e.is("write(4, -1, 1)", x.write(4, -1, 1), -2);
        FourWheels y = new FourWheels();
        e.of(40, "-6;");
        e.is("write(0, 0, 1)", y.write(0, 0, 1), -6);
        e.is("write(0, -1, 1)", y.write(0, -1, 1), -6);
        e.is("write(3, 40, 1)", y.write(3, 40, 1), -6);
        e.of(40, "-7.");
        y.numbers(0, 3, 0);
        e.is("none at all: write(0, 0, 1)", y.write(0, 0, 1), -7);
        y.numbers(0, 3, 3);
        for (int i : FAR) {
            e.is("write(0, " + i + ", 1)", y.write(0, i, 1), -7);
        }
        e.is("write(0, 3, 1)", y.write(0, 3, 1), -7);
        e.is("write(0, 2, -7)", y.write(0, 2, -7), -7);
        y.numbers(0, 3, 40);
        e.is("write(0, 39, 5)", y.write(0, 39, 5), 5);
        e.is("write(0, 40, 5)", y.write(0, 40, 5), -7);
    }

    private void promise40Stays() {
        e.of(40, "Number i of a TRAY is v");
        FourWheels x = Told.of(SMALL);
        Told.lay(x, 0, 8, 7, 5);
        x.write(0, 1, 6);
        e.is("the second one, the others stay", x.judge(0, 0), 2);
        e.is("the first one stays: 4 and 3, then 2 and 3", x.judge(0, 1), 12);
        Told.shed(x, FOUR);
        e.is("another shed: the tray stays", x.judge(0, 0), NONE);
        x.image(0);
        x.write(0, 0, -1);
        x.restore(0);
        e.is("no image has trays", x.judge(0, 0), 0);
        x.tries(1);
        x.write(0, 0, 3);
        x.undo(1);
        e.is("no undoing, either", x.judge(0, 0), NONE);
    }

    private void promise41() {
        e.of(41, "The first in ORDER come into a TRAY, as many as it has places: how many.");
        FourWheels x = Told.of(SMALL);
        x.numbers(0, 0, 3);
        e.is("three places", x.copy(0), 3);
        e.is("2, 5, 6: best has 6 first", x.judge(0, 2), 1);
        e.is("2 and 3, 1 and 3 and 30, 1 and 2 and 3", x.judge(0, 1), 5 + 34 + 6);
        x.numbers(0, 0, 40);
        x.write(0, 9, -1);
        x.write(0, 10, 7);
        e.is("more places than LEFT ones", x.copy(0), 9);
        x.write(0, 2, 5);
        e.is("the others stay: the tenth can't be", x.judge(0, 0), 9);
        x.numbers(0, 0, 0);
        e.is("no places", x.copy(0), 0);
        x.numbers(0, 2, 9);
        e.is("just as many", x.copy(0), 9);
        e.is("2 5 6 opens it", x.judge(0, 0), 3);
        FourWheels none = Told.of("wheel 2;clue 0: 1 = 1;");
        Told.lay(none, 0, 1, 7);
        e.is("none LEFT", none.copy(0), 0);
        e.is("the others stay", none.judge(0, 0), 1);
        FourWheels big = Told.of(FOUR + "clue 9: number = 99 * 100 + 99;at 9 9 9 9;pull 1;");
        for (int sort = 0; sort < 4; sort++) {
            big.numbers(sort, sort, 1);
            e.is("copy(" + sort + ")", big.copy(sort), 1);
        }
        // 9999 is 15 by 8 bits: from 9999 9, 9, 8, 4 steps and 1
        e.is("cut to its sort", big.judge(0, 1), 31);
        e.is("of 16 bits", big.judge(1, 1), 1);
        e.is("of 32 bits", big.judge(2, 1), 1);
        e.is("of 64 bits", big.judge(3, 1), 1);
        FourWheels tried = Told.of(SMALL);
        tried.tries(2);
        tried.numbers(0, 1, 1);
        tried.copy(0);
        tried.undo(1);
        e.is("5 was the first: 1 and 2 and 3", tried.judge(0, 1), 6);
        e.of(41, "-2; -6.");
        for (int tray : FAR) {
            e.is("copy(" + tray + ")", x.copy(tray), -2);
        }
        e.is("copy(4)", x.copy(4), -2);
        e.is("copy(3)", x.copy(3), -6);
        e.is("none LEFT: copy(3)", none.copy(3), -6);
    }

    private void promise42() {
        e.of(42, "An IMAGE is made: 0.");
        FourWheels x = Told.of(SMALL);
        x.tries(8);
        x.feel(0, 1);
        String before = Look.at(x);
        e.is("image(0)", x.image(0), 0);
        e.is("image(1)", x.image(1), 0);
        e.same("nothing else", Look.at(x), before);
        e.is("undo(2)", x.undo(2), 0);
        e.is("image(0) anew", x.image(0), 0);
        x.tries(3);
        x.restore(1);
        e.is("the one of before", x.count(11), 1);
        x.restore(0);
        e.is("the later one", x.count(11), 0);
        e.is("of a new object", new FourWheels().image(1), 0);
        e.of(42, "-2.");
        for (int i : FAR) {
            e.is("image(" + i + ")", x.image(i), -2);
        }
        e.is("image(2)", x.image(2), -2);
    }

    private void promise43() {
        e.of(43, "All that is in an IMAGE is as it was: 0.");
        FourWheels x = Told.of(SMALL);
        String[] looks = new String[4];
        looks[0] = Look.at(x);
        x.image(0);
        x.tries(8);
        x.feel(0, 0);
        x.tries(8);
        x.tries(6);
        looks[1] = Look.at(x).replace("count 5: 4", "count 5: 0");
        x.image(1);
        e.is("restore(0)", x.restore(0), 0);
        e.same("nothing tried", Look.at(x), looks[0]);
        e.is("not to be undone", x.undo(1), -3);
        x.tries(1);
        e.is("restore(1)", x.restore(1), 0);
        e.same("open", Look.at(x), looks[1]);
        e.is("not to be undone", x.undo(1), -3);
        e.is("restore(1) again", x.restore(1), 0);
        e.same("open", Look.at(x), looks[1]);
        x.restore(0);
        x.tries(8);
        e.is("on from there", x.undo(1), 0);
        e.same("nothing tried", Look.at(x), looks[0]);
        FourWheels felt = Told.of(SMALL);
        felt.feel(0, 2);
        felt.image(0);
        felt.feel(1, 0);
        felt.restore(0);
        felt.feel(0, 0);
        e.is("what was FELT is as it was", felt.left(), 3);
        felt.undo(1);
        e.is("and stays so", felt.left(), 3);
    }

    private void promise43Sheds() {
        e.of(43, "All that is in an IMAGE is as it was");
        FourWheels x = new FourWheels();
        String empty = Look.at(x);
        x.image(0);
        Told.shed(x, SMALL);
        x.tries(8);
        String small = Look.at(x).replace("count 5: 1", "count 5: 0");
        x.image(1);
        e.is("ten thousand", Told.shed(x, FOUR + "clue 9: has 9 = 1;mate 0;"), 6);
        x.tries(77);
        Told.feed(x, "saw 1;");
        x.restore(1);
        e.same("all but the tape, which is in no image", Look.at(x), small.replace("count 8: 0", "count 8: 20"));
        e.is("its clues", x.holds(0, 2), 1);
        e.is("its mates", x.mate(0, 0), 2);
        e.is("the tape", x.shed(6), 1);
        Told.shed(x, FOUR);
        x.image(1);
        x.restore(0);
        e.same("no WHEELS", Look.at(x), empty);
        x.restore(1);
        e.is("four", x.count(1), 10000);
        e.is("untried", x.left(), 10000);
        Told.shed(x, "saw 0;");
        x.restore(0);
        e.is("the fault of the latest text is in no image", x.fault(0), 3);
        e.of(43, "-2; -5: none was made.");
        FourWheels y = Told.of(SMALL);
        for (int i : FAR) {
            e.is("restore(" + i + ")", y.restore(i), -2);
        }
        e.is("restore(2)", y.restore(2), -2);
        e.is("restore(0)", y.restore(0), -5);
        e.is("restore(1)", y.restore(1), -5);
        y.image(1);
        e.is("1 was made: restore(0)", y.restore(0), -5);
        y.tries(0);
        e.is("nothing is lost", y.count(5), 1);
        e.is("restore(1)", y.restore(1), 0);
    }

    private void counts(FourWheels x, String when, int... due) {
        for (int what = 0; what < due.length; what++) {
            e.is(when + ": count(" + what + ")", x.count(what), due[what]);
        }
    }

    private void promise44() {
        e.of(44, "0 WHEELS, 1 NUMBERS, 2 CLUES, 3 MATES, 4 SECONDS since THE SHED was told, 5 calls that can be UNDONE,");
        FourWheels x = Told.of(SMALL);
        counts(x, "told", 2, 9, 2, 2, 0, 0, 0, 1, 0, 10, 0, 0);
        x.tries(8);
        x.feel(0, 2);
        counts(x, "tried and felt", 2, 9, 2, 2, 9, 2, 0, 8, 0, 10, 1, 1);
        FourWheels most = Told.of(FOUR + "clue 5: 1 = 1;".repeat(8) + "mate;mate;mate;mate;");
        counts(most, "as much as can be", 4, 10000, 8, 4, 0, 0, 0, 0, 0, 16, 0, 0);
        e.of(44, "6 1 if it is OPEN, else 0, 7 how WHEELS stand (a NUMBER), 8 bytes on THE TAPE, 9 LINES,");
        x.tries(6);
        Told.feed(x, "saw 1;saw 2;");
        counts(x, "open", 2, 9, 2, 2, 14, 3, 1, 6, 20, 10, 1, 2);
        e.is("shed(6)", x.shed(6), 1);
        counts(x, "another one", 0, 1, 0, 0, 0, 0, 0, 0, 0, 1, 0, 0);
        e.of(44, "10 wrong ones since a bar (without a bar: all),");
        FourWheels bar = Told.of("wheel 2;bar 9 1;");
        FourWheels none = Told.of("wheel 2;");
        for (int i = 1; i <= 20; i++) {
            bar.tries(0);
            none.tries(0);
            e.is("with a bar, behind " + i, bar.count(10), i % 9);
            e.is("without a bar, behind " + i, none.count(10), i);
        }
        e.of(44, "11 how many unlike ones were tried.");
        e.is("one and the same", none.count(11), 1);
        none.tries(1);
        e.is("two", none.count(11), 2);
        none.tries(1);
        e.is("two", none.count(11), 2);
        none.undo(1);
        e.is("it was tried ahead of that", none.count(11), 2);
        none.undo(1);
        e.is("one", none.count(11), 1);
        e.of(44, "NONE for others.");
        e.is("count(12)", x.count(12), NONE);
        for (int what : FAR) {
            e.is("count(" + what + ")", x.count(what), NONE);
        }
    }
}
