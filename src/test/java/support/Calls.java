import java.io.PrintWriter;
import java.io.StringWriter;
import java.nio.file.Files;
import java.nio.file.Path;
import java.util.ArrayList;
import java.util.HashSet;
import java.util.List;
import java.util.Map;
import java.util.Set;
import java.util.TreeMap;
import java.util.TreeSet;
import java.util.regex.Matcher;
import java.util.regex.Pattern;
import java.util.spi.ToolProvider;

/** Which of the program's methods call which, as the compiled classes tell. */
final class Calls {
    private static final Pattern CLASS = Pattern.compile("class (FourWheels[$\\w]*)");
    private static final Pattern HEAD = Pattern.compile("^  [^ ].*?([\\w$]+)\\(.*\\);$");
    private static final Pattern CALL = Pattern.compile("invoke\\w+ .*// Method (?:([\\w$]+)\\.)?\"?([\\w<>]+)\"?:");

    private final Map<String, Set<String>> calls = new TreeMap<>();
    private final Map<String, Set<String>> reached = new TreeMap<>();
    private final Map<String, Integer> depths = new TreeMap<>();

    Calls() throws Exception {
        Path place = Path.of(FourWheels.class.getProtectionDomain().getCodeSource().getLocation().toURI());
        List<String> arguments = new ArrayList<>(List.of("-c", "-p"));
        try (var files = Files.list(place)) {
            files.map(Path::toString).filter(f -> f.matches(".*FourWheels(\\$\\w+)?\\.class")).sorted().forEach(arguments::add);
        }
        StringWriter out = new StringWriter();
        ToolProvider.findFirst("javap").orElseThrow().run(new PrintWriter(out), new PrintWriter(out), arguments.toArray(new String[0]));
        read(out.toString());
        for (String method : calls.keySet()) {
            reach(method, reached.computeIfAbsent(method, m -> new HashSet<>()));
        }
    }

    private void read(String told) {
        String inClass = "";
        String method = "";
        for (String line : told.split("\n")) {
            Matcher head = HEAD.matcher(line);
            Matcher call = CALL.matcher(line);
            Matcher of = CLASS.matcher(line);
            if (!line.startsWith(" ") && of.find()) {
                inClass = of.group(1);
            } else if (head.find()) {
                method = inClass + "." + (head.group(1).equals(inClass) ? "<init>" : head.group(1));
                calls.putIfAbsent(method, new TreeSet<>());
            } else if (call.find()) {
                String to = call.group(1) == null ? inClass : call.group(1);
                if (to.startsWith("FourWheels")) {
                    calls.get(method).add(to + "." + call.group(2));
                }
            }
        }
    }

    private void reach(String from, Set<String> into) {
        for (String to : calls.getOrDefault(from, Set.of())) {
            if (into.add(to)) {
                reach(to, into);
            }
        }
    }

    int methods() {
        return calls.size();
    }

    private boolean together(String a, String b) {
        return reached.getOrDefault(a, Set.of()).contains(b) && reached.getOrDefault(b, Set.of()).contains(a);
    }

    /** The most methods that stand open at once from this one on, those of a recursion not counted. */
    int depth(String method) {
        Integer known = depths.get(method);
        if (known != null) {
            return known;
        }
        int deepest = 0;
        for (String to : withRecursion(method)) {
            deepest = Math.max(deepest, depth(to));
        }
        int depth = deepest + (together(method, method) ? 0 : 1);
        depths.put(method, depth);
        return depth;
    }

    /** What a method calls, or any that recurs together with it, but for these themselves. */
    private Set<String> withRecursion(String method) {
        Set<String> found = new TreeSet<>(calls.getOrDefault(method, Set.of()));
        for (String other : calls.keySet()) {
            if (together(method, other)) {
                found.addAll(calls.get(other));
            }
        }
        found.removeIf(to -> together(method, to));
        return found;
    }

    Set<String> all() {
        return calls.keySet();
    }
}
