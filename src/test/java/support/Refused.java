import java.util.ArrayList;
import java.util.List;
import java.util.function.ToLongFunction;

/** Calls that are refused, each on an object of its own, and that nothing is other than before. */
final class Refused {
    private static final String SHED = "wheel 3;wheel 3 stiff 2 round;clue 8: has 2 = 1;clue 5: sum > 2;bar 2 30;saw 60;"
            + "mate 0;mate;set 2 0;at 0 1;";

    private record Call(String name, long due, ToLongFunction<FourWheels> call) { }

    private static final List<Call> CALLS = new ArrayList<>();
    private static final List<Call> CALLS_OPEN = new ArrayList<>();

    private Refused() { }

    private static void add(String name, long due, ToLongFunction<FourWheels> call) {
        CALLS.add(new Call(name, due, call));
    }

    private static void open(String name, long due, ToLongFunction<FourWheels> call) {
        CALLS_OPEN.add(new Call(name, due, call));
    }

    private static void lay() {
        add("shed(-1)", -3, x -> x.shed(-1));
        add("shed(21)", -3, x -> x.shed(21));
        add("wheel(2, 0)", -2, x -> x.wheel(2, 0));
        add("wheel(0, 5)", -2, x -> x.wheel(0, 5));
        add("holds(2, 0)", -2, x -> x.holds(2, 0));
        add("holds(0, 9)", -3, x -> x.holds(0, 9));
        add("figure(0, 2)", -2, x -> x.figure(0, 2));
        add("figure(9, 0)", -3, x -> x.figure(9, 0));
        add("likely(9)", -3, x -> x.likely(9));
        add("order(-1)", -3, x -> x.order(-1));
        add("chance(1, 2)", -2, x -> x.chance(1, 2));
        add("chance(-1, 0)", -3, x -> x.chance(-1, 0));
        add("mean(2)", -2, x -> x.mean(2));
        add("tells(2, 0)", -2, x -> x.tells(2, 0));
        add("tells(0, 3)", -3, x -> x.tells(0, 3));
        add("but(9)", -3, x -> x.but(9));
        add("tries(9)", -3, x -> x.tries(9));
        add("tries(-1)", -3, x -> x.tries(-1));
        add("feel(2, 0)", -2, x -> x.feel(2, 0));
        add("feel(0, 3)", -3, x -> x.feel(0, 3));
        add("feel(0, -1)", -3, x -> x.feel(0, -1));
        add("undo(0)", -3, x -> x.undo(0));
        add("undo(3)", -3, x -> x.undo(3));
        add("judge(4, 0)", -2, x -> x.judge(4, 0));
        add("judge(0, 4)", -2, x -> x.judge(0, 4));
        add("judge(3, 0)", -6, x -> x.judge(3, 0));
        add("perform(4)", -2, x -> x.perform(4));
        add("perform(3)", -6, x -> x.perform(3));
        add("year(1, 0)", -3, x -> x.year(1, 0));
        add("year(1, 31)", -3, x -> x.year(1, 31));
        add("steps(0, 9)", -3, x -> x.steps(0, 9));
        add("through(9)", -3, x -> x.through(9));
        add("along(9)", -3, x -> x.along(9));
        add("length(0)", -3, x -> x.length(0));
        add("best(0, 9)", -2, x -> x.best(0, 9));
        add("best(3, 0)", -6, x -> x.best(3, 0));
        add("best(1, 0)", -4, x -> x.best(1, 0));
        add("shortest(0, 18)", -2, x -> x.shortest(0, 18));
        add("shortest(3, 0)", -6, x -> x.shortest(3, 0));
        add("shortest(1, 0)", -4, x -> x.shortest(1, 0));
        add("saw(3)", -2, x -> x.saw(3));
        add("mate(2, 0)", -2, x -> x.mate(2, 0));
        add("mate(0, -1)", -3, x -> x.mate(0, -1));
        add("guarded(2, 0, 0)", -2, x -> x.guarded(2, 0, 0));
        add("guarded(0, -1, 0)", -3, x -> x.guarded(0, -1, 0));
        add("danger(-1)", -3, x -> x.danger(-1));
        add("both(0, 2)", -2, x -> x.both(0, 2));
        add("who(4)", -2, x -> x.who(4));
        add("who(3)", -6, x -> x.who(3));
        add("who(1)", -4, x -> x.who(1));
        add("rows(4)", -2, x -> x.rows(4));
        add("rows(3)", -6, x -> x.rows(3));
        add("rows(1)", -4, x -> x.rows(1));
        add("near(-1)", -3, x -> x.near(-1));
        add("numbers(4, 0, 0)", -2, x -> x.numbers(4, 0, 0));
        add("numbers(0, 4, 0)", -2, x -> x.numbers(0, 4, 0));
        add("numbers(0, 0, 41)", -3, x -> x.numbers(0, 0, 41));
        add("numbers(0, 0, -1)", -3, x -> x.numbers(0, 0, -1));
        add("numbers(3, 0, 41)", -3, x -> x.numbers(3, 0, 41));
        add("write(4, 0, 8)", -2, x -> x.write(4, 0, 8));
        add("write(3, 0, 8)", -6, x -> x.write(3, 0, 8));
        add("write(0, 3, 8)", -7, x -> x.write(0, 3, 8));
        add("write(0, -1, 8)", -7, x -> x.write(0, -1, 8));
        add("copy(4)", -2, x -> x.copy(4));
        add("copy(3)", -6, x -> x.copy(3));
        add("image(2)", -2, x -> x.image(2));
        add("image(-1)", -2, x -> x.image(-1));
        add("restore(2)", -2, x -> x.restore(2));
        add("restore(1)", -5, x -> x.restore(1));
        open("tries(0)", -5, x -> x.tries(0));
        open("saw(0)", -5, x -> x.saw(0));
        open("perform(0), which isn't refused", 0, x -> x.perform(0));
        open("year(1, 30), which isn't refused", 0, x -> x.year(1, 30));
    }

    static void all(Edges e) {
        if (CALLS.isEmpty()) {
            lay();
        }
        for (Call call : CALLS) {
            look(e, call, false);
        }
        for (Call call : CALLS_OPEN) {
            look(e, call, true);
        }
        FourWheels full = new FourWheels();
        Told.feed(full, " ".repeat(900));
        e.is("feed behind 900", full.feed(1, 1, 1, 1, 1), -5);
        e.is("bytes", full.count(8), 900);
        e.is("all of them blanks", full.shed(900), 0);
    }

    private static void look(Edges e, Call call, boolean opened) {
        FourWheels x = Told.of(SHED);
        Told.lay(x, 0, 7, 2, 3);
        Told.lay(x, 1, 0, 1, 2, 3, 4, 5, 6, 7, 8);
        Told.lay(x, 2, 5);
        x.image(0);
        x.tries(8);
        x.feel(0, 0);
        if (opened) {
            x.tries(6);
        }
        Told.feed(x, "pull 61;");
        x.shed(8);
        Told.feed(x, "pull 5;");
        String before = Look.at(x);
        e.is(call.name(), call.call().applyAsLong(x), call.due());
        e.same("behind " + call.name(), Look.at(x), before);
        e.is("the image stays: restore(0)", x.restore(0), 0);
        e.is("the image stays: left()", x.left(), 9);
    }
}
