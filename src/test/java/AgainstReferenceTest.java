import java.lang.reflect.InvocationTargetException;
import java.lang.reflect.Method;
import java.lang.reflect.Modifier;
import java.util.ArrayList;
import java.util.HashMap;
import java.util.List;
import java.util.Map;
import java.util.Random;
import java.util.Set;
import java.util.TreeSet;

/** Runs of drawn calls: FourWheels answers as the slow reference does. */
public final class AgainstReferenceTest {
    private final Random random;
    private final Sheds sheds;
    private FourWheels wheels = new FourWheels();
    private Reference reference = new Reference();
    private final List<String> calls = new ArrayList<>();
    private static final Map<String, Method> OURS = methods(FourWheels.class);
    private static final Map<String, Method> THEIRS = methods(Reference.class);
    private static final Set<String> MET = new TreeSet<>();
    private int made;

    private AgainstReferenceTest(long seed) {
        random = new Random(seed);
        sheds = new Sheds(random);
    }

    private static Map<String, Method> methods(Class<?> of) {
        Map<String, Method> found = new HashMap<>();
        for (Method m : of.getDeclaredMethods()) {
            if (Modifier.isPublic(m.getModifiers())) {
                found.put(m.getName(), m);
            }
        }
        return found;
    }

    private static long answer(Map<String, Method> methods, Object on, String name, Object[] args) throws Exception {
        try {
            return ((Number) methods.get(name).invoke(on, args)).longValue();
        } catch (InvocationTargetException e) {
            throw new IllegalStateException(name, e.getCause());
        }
    }

    private long call(String name, Object... args) throws Exception {
        StringBuilder told = new StringBuilder(name).append('(');
        for (Object arg : args) {
            told.append(arg).append(' ');
        }
        calls.add(told.append(')').toString());
        made++;
        long ours = answer(OURS, wheels, name, args);
        long due = answer(THEIRS, reference, name, args);
        MET.add(name);
        if (ours != due) {
            for (String c : calls) {
                System.out.println("  " + c);
            }
            System.out.println("the last one answered " + ours + ", due is " + due);
            System.exit(1);
        }
        return due;
    }

    private int below(int n) {
        return random.nextInt(n);
    }

    /** Mostly 0 to n, now and then beyond. */
    private int about(int n) {
        int kind = below(14);
        if (kind == 0) {
            return -1 - below(2);
        }
        if (kind == 1) {
            return n + below(3);
        }
        if (kind == 2 && below(6) == 0) {
            return below(2) == 0 ? Integer.MIN_VALUE : Integer.MAX_VALUE;
        }
        return n > 0 ? below(n) : 0;
    }

    private void tell(String text) throws Exception {
        calls.add("the text: " + text);
        int fed = 0;
        String padded = text + "                    ";
        for (int at = 0; at < text.length() && fed + 20 <= 900; at += 20) {
            int[] v = new int[5];
            for (int i = 0; i < 20; i++) {
                v[i / 4] = v[i / 4] << 8 | padded.charAt(at + i);
            }
            call("feed", v[0], v[1], v[2], v[3], v[4]);
            fed += 20;
        }
        call("count", 8);
        if (below(10) == 0) {
            call("shed", about(fed + 1));
        }
        call("shed", text.length());
        call("fault", 0);
        call("fault", 1);
    }

    private void layTray(int total) throws Exception {
        int tray = below(4);
        int size = below(12) == 0 ? about(41) : below(4) == 0 ? below(12) : 1 + below(5);
        if (call("numbers", tray, about(4), size) != 0) {
            return;
        }
        boolean seconds = below(4) == 0;
        for (int i = 0; i < size && i < 12; i++) {
            long v = seconds ? below(40) : below(30) == 0 ? random.nextLong() : below(40) == 0 ? -1 : below(Math.max(1, total));
            call("write", tray, below(40) == 0 ? about(size) : i, v);
        }
        if (below(8) == 0) {
            call("copy", tray);
        }
    }

    private void oneCall(int total) throws Exception {
        switch (below(40)) {
            case 0 -> call("wheel", about(4), about(5));
            case 1 -> call("holds", about(reference.count(2)), about(total));
            case 2 -> call("figure", about(total), about(4));
            case 3 -> call("likely", about(total));
            case 4 -> call("left");
            case 5 -> call("all");
            case 6 -> call("order", about(total));
            case 7 -> call("chance", about(total), about(2));
            case 8 -> call("mean", about(2));
            case 9 -> call("tells", about(4), about(8));
            case 10 -> call("telling");
            case 11 -> call("but", about(9));
            case 12, 13 -> call("tries", about(total));
            case 14, 15 -> call("feel", about(4), about(8));
            case 16 -> call("undo", about(4));
            case 17 -> call("judge", about(4), about(4));
            case 18 -> call("perform", about(4));
            case 19 -> call("year", random.nextInt(), below(3) == 0 ? about(31) : 1 + below(4));
            case 20 -> call("steps", about(total), about(total));
            case 21 -> call("nearest");
            case 22 -> call("through", about(total));
            case 23 -> call("along", about(total));
            case 24 -> call("length", about(total + 1));
            case 25 -> call("best", about(4), below(3) == 0 ? about(2) : 10 + about(8));
            case 26 -> call("shortest", about(4), below(3) == 0 ? about(2) : 10 + about(8));
            case 27 -> call("saw", about(3));
            case 28 -> call("mate", about(4), about(total));
            case 29 -> call("guarded", about(4), below(9) == 0 ? 9999 + below(4) : about(total), about(2));
            case 30 -> call("danger", below(9) == 0 ? 9999 + below(4) : about(total));
            case 31 -> call("both", about(4), about(4));
            case 32 -> call("hidden");
            case 33 -> call("who", about(4));
            case 34 -> call("rows", about(4));
            case 35 -> call("near", about(20));
            case 36 -> call("copy", about(4));
            case 37 -> call("image", about(2));
            case 38 -> call("restore", about(2));
            default -> call("fault", about(2));
        }
    }

    /** What is asked of mates and rows is rarely met by chance: lay it so. */
    private void aimed(int total) throws Exception {
        int mates = (int) call("count", 3);
        if (mates > 0 && below(2) == 0) {
            int m = below(mates);
            int n = 1 + below(6);
            call("numbers", 3, 1 + below(3), n);
            for (int i = 0; i < n; i++) {
                long k = call("mate", m, below(5) == 0 ? below(n) : i);
                call("write", 3, n - 1 - i, k);
            }
            call("who", 3);
            call("hidden");
            return;
        }
        int n = 1 + below(7);
        call("numbers", 2, 2, n);
        int at = below(total);
        for (int i = 0; i < n; i++) {
            call("write", 2, i, (at + (long) i * (1 + total / 9)) % total);
        }
        for (int what : new int[] {0, 10, 11, 12, 13, 14, 15, 16, 17}) {
            call("best", 2, what);
            call("shortest", 2, what);
        }
        call("judge", 2, below(4));
        call("numbers", 1, 1, 1 + below(2));
        call("write", 1, 0, call("steps", below(total), below(total)));
        call("write", 1, 1, call("steps", below(total), below(total)));
        call("rows", 1);
    }

    private void run(int mostNumbers) throws Exception {
        for (int told = 0; told < 4 && made < 380; told++) {
            if (told > 0 || below(6) > 0) {
                tell(sheds.draw(mostNumbers));
            }
            int total = (int) call("count", 1);
            int times = below(90);
            for (int i = 0; i < times && made < 470; i++) {
                if (below(8) == 0) {
                    layTray(total);
                } else if (below(12) == 0) {
                    aimed(total);
                } else {
                    oneCall(total);
                }
                if (below(5) == 0) {
                    call("count", about(12));
                }
                total = reference.count(1);
            }
            for (int what = -1; what <= 12; what++) {
                call("count", what);
            }
        }
    }

    public static void main(String[] args) throws Exception {
        int runs = args.length > 0 ? Integer.parseInt(args[0]) : 600;
        long seed = args.length > 1 ? Long.parseLong(args[1]) : 7;
        int most = args.length > 2 ? Integer.parseInt(args[2]) : 0;
        int all = 0;
        for (int i = 0; i < runs; i++) {
            AgainstReferenceTest test = new AgainstReferenceTest(seed * 1000003L + i);
            test.run(most > 0 ? most : i % 50 == 0 ? 400 : i % 3 == 0 ? 100 : 30);
            all += test.made;
        }
        if (MET.size() != OURS.size()) {
            System.out.println("only " + MET + " were called");
            System.exit(1);
        }
        System.out.println("AgainstReferenceTest: " + all + " answers as due");
    }
}
