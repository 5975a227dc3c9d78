import java.io.IOException;
import java.lang.reflect.Method;
import java.lang.reflect.Modifier;
import java.net.URL;
import java.net.URLClassLoader;
import java.nio.file.Files;
import java.nio.file.Path;
import java.util.Map;
import java.util.TreeMap;
import java.util.TreeSet;
import java.util.regex.Matcher;
import java.util.regex.Pattern;
import javax.tools.ToolProvider;

/** README.md's examples answer what it says, and its table of calls tells each call with the codes of its promise. */
public final class ReadmeTest {
    private static final Path README = Path.of("README.md");
    private static final Path DOCUMENT = Path.of("../shared/DOC.md");

    private static int wrong;
    private static int examples;

    private static void wrong(String what) {
        wrong++;
        System.out.println(what);
    }

    /** The examples call this one. */
    public static void due(String call, long got, long want) {
        examples++;
        if (got != want) {
            wrong(call + " answers " + got + ", README.md says " + want);
        }
    }

    /** Blocks that begin with a function stand beside the program that the others make. */
    private static String program(String readme) {
        StringBuilder functions = new StringBuilder();
        StringBuilder calls = new StringBuilder();
        Matcher blocks = Pattern.compile("\n```java\n(.*?)\n```", Pattern.DOTALL).matcher(readme);
        while (blocks.find()) {
            boolean isFunction = blocks.group(1).startsWith("static ");
            (isFunction ? functions : calls).append(blocks.group(1)).append('\n');
        }
        Matcher told = Pattern.compile("^([\\w(](?:[^;\n]|;(?! //)|\n +)*); // (-?\\d+)$", Pattern.MULTILINE).matcher(calls);
        String asked = told.replaceAll(m -> Matcher.quoteReplacement("ReadmeTest.due(\"" + nameOf(m.group(1)) + "\", "
                + m.group(1) + ", " + m.group(2) + ");"));
        return "public final class Examples {\n" + functions + "public static void run() {\n" + asked + "}\n}\n";
    }

    private static String nameOf(String call) {
        return call.replaceAll("\\s+", " ").replace("\\", "\\\\").replace("\"", "\\\"");
    }

    private static void runExamples(String readme) throws Exception {
        Path work = Files.createTempDirectory("readme");
        Path file = work.resolve("Examples.java");
        Files.writeString(file, program(readme));
        String path = System.getProperty("java.class.path");
        int code = ToolProvider.getSystemJavaCompiler().run(null, null, null, "-cp", path, "-d", work.toString(), file.toString());
        if (code != 0) {
            wrong("the examples do not compile");
            return;
        }
        try (URLClassLoader loader = new URLClassLoader(new URL[] {work.toUri().toURL()})) {
            loader.loadClass("Examples").getMethod("run").invoke(null);
        }
        long told = Pattern.compile("; // -?\\d+$", Pattern.MULTILINE).matcher(readme).results().count();
        if (examples != told || told < 30) {
            wrong(examples + " examples were run of " + told);
        }
    }

    private static String codesIn(String text) {
        StringBuilder codes = new StringBuilder();
        Matcher m = Pattern.compile("-\\d+").matcher(text);
        while (m.find()) {
            codes.append(m.group()).append(' ');
        }
        return codes.toString();
    }

    /** Each call's codes, in the order in which its promise tells them. */
    private static Map<String, String> codesOfPromises() throws IOException {
        Map<String, String> found = new TreeMap<>();
        String latest = "";
        Matcher m = Pattern.compile("\n`\\w+ (\\w+)\\([^`]*\\)`: ([^\n]*)").matcher(Files.readString(DOCUMENT));
        while (m.find()) {
            latest = m.group(2).contains("Likewise") ? latest : codesIn(m.group(2));
            found.put(m.group(1), latest);
        }
        return found;
    }

    private static Map<String, String> codesOfTable(String readme) {
        Map<String, String> found = new TreeMap<>();
        Matcher m = Pattern.compile("^\\| `(\\w+)\\([^`]*\\)` \\| [^|]* \\|([^|]*)\\|$", Pattern.MULTILINE).matcher(readme);
        while (m.find()) {
            found.put(m.group(1), codesIn(m.group(2)));
        }
        return found;
    }

    private static TreeSet<String> face() {
        TreeSet<String> names = new TreeSet<>();
        for (Method m : FourWheels.class.getDeclaredMethods()) {
            if (Modifier.isPublic(m.getModifiers())) {
                names.add(m.getName());
            }
        }
        return names;
    }

    private static void holdTable(String readme) throws IOException {
        Map<String, String> table = codesOfTable(readme);
        Map<String, String> promises = codesOfPromises();
        TreeSet<String> calls = face();
        if (!table.keySet().equals(calls)) {
            wrong("the table tells " + table.keySet() + ", the class has " + calls);
        }
        for (String call : calls) {
            if (!promises.getOrDefault(call, "no promise").equals(table.get(call))) {
                wrong(call + ": README.md tells the codes " + table.get(call) + ", its promise " + promises.get(call));
            }
        }
    }

    public static void main(String[] args) throws Exception {
        String readme = Files.readString(README);
        runExamples(readme);
        holdTable(readme);
        System.out.println("ReadmeTest: " + examples + " examples, " + wrong + " faults");
        if (wrong != 0) {
            System.exit(1);
        }
    }
}
