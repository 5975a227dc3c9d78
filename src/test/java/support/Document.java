import java.io.IOException;
import java.nio.file.Files;
import java.nio.file.Path;
import java.util.ArrayList;
import java.util.Arrays;
import java.util.List;
import java.util.Map;
import java.util.TreeMap;
import java.util.regex.Matcher;
import java.util.regex.Pattern;

/** The document's words by promises (0: what stands ahead of these), and which of them the tests have quoted. */
final class Document {
    private static final Path PLACE = Path.of("../shared/DOC.md");

    private final Map<Integer, String> texts = new TreeMap<>();
    private final Map<Integer, boolean[]> quoted = new TreeMap<>();

    /** Where the document isn't at hand, no quote is held against it. */
    Document() throws IOException {
        if (!Files.exists(PLACE)) {
            return;
        }
        String all = Files.readString(PLACE);
        String ahead = found("(An object is used [^\n]*)", all) + " " + found("\n## Terms\n(.*?)\nThe constants:", all);
        put(0, ahead.replace("```text", " ").replace("```", " ").replaceAll("==== \\d\\.", " "));
        Matcher promises = Pattern.compile("\n## Promise (\\d+): [^\n]*\n+(.*?)(?=\n## )", Pattern.DOTALL).matcher(all);
        while (promises.find()) {
            put(Integer.parseInt(promises.group(1)), promises.group(2).replaceFirst("^`[^`]*`: ", ""));
        }
    }

    private static String found(String pattern, String in) {
        Matcher m = Pattern.compile(pattern, Pattern.DOTALL).matcher(in);
        return m.find() ? m.group(1) : "";
    }

    private static String plain(String words) {
        return words.replaceAll("\\s+", " ").trim();
    }

    private void put(int promise, String text) {
        texts.put(promise, plain(text));
        quoted.put(promise, new boolean[plain(text).length()]);
    }

    /** Whether a promise has these words. */
    boolean quote(int promise, String words) {
        if (texts.isEmpty()) {
            return true;
        }
        String text = texts.getOrDefault(promise, "");
        String sought = plain(words);
        int at = text.indexOf(sought);
        boolean has = at >= 0;
        while (at >= 0) {
            Arrays.fill(quoted.get(promise), at, at + sought.length(), true);
            at = text.indexOf(sought, at + 1);
        }
        return has;
    }

    /** The words of all promises that no test has quoted. */
    List<String> unquoted() {
        List<String> found = new ArrayList<>();
        for (Map.Entry<Integer, String> entry : texts.entrySet()) {
            boolean[] done = quoted.get(entry.getKey());
            StringBuilder rest = new StringBuilder();
            for (int i = 0; i < done.length; i++) {
                rest.append(done[i] ? '\n' : entry.getValue().charAt(i));
            }
            for (String words : rest.toString().split("\n+")) {
                if (Pattern.compile("[A-Za-z0-9]").matcher(words).find()) {
                    found.add("promise " + entry.getKey() + ": " + words.trim());
                }
            }
        }
        return found;
    }
}
