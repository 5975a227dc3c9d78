import java.io.IOException;
import java.nio.file.Files;
import java.nio.file.Path;
import java.util.Arrays;
import java.util.HashSet;
import java.util.List;
import java.util.Map;
import java.util.Set;
import java.util.TreeMap;
import java.util.regex.Matcher;
import java.util.regex.Pattern;
import java.lang.reflect.Constructor;
import java.lang.reflect.Field;
import java.lang.reflect.Method;
import java.lang.reflect.Modifier;

/** The rules of LANGUAGE.md that can be seen from the text and from the compiled classes. */
public final class RulesTest {
    private static int wrong;

    private static void broken(String what) {
        wrong++;
        System.out.println(what);
    }

    private static String withoutComments(String text) {
        String bare = text.replaceAll("(?s)/\\*.*?\\*/", "").replaceAll("//[^\n]*", "");
        return bare.replaceAll("\"[^\"\n]*\"", "\"\"").replaceAll("'[^'\n]'", "''");
    }

    private static void words(String bare) {
        for (String word : List.of("throw", "throws", "try", "catch", "synchronized", "assert", "double", "float", "new Object", "Math\\.\\w+Exact",
                "hashCode", "System\\.(?!arraycopy)\\w+", "Integer\\.parse\\w*", "protected", "transient", "volatile", "native", "strictfp")) {
            if (Pattern.compile("\\b" + word + "\\b").matcher(bare).find()) {
                broken("the text has " + word);
            }
        }
        for (String sign : List.of("->", "::", "@", "[][][]")) {
            if (bare.contains(sign)) {
                broken("the text has " + sign);
            }
        }
        Matcher imports = Pattern.compile("import ([^;]+);").matcher(bare);
        while (imports.find()) {
            if (!imports.group(1).equals("java.util.Arrays")) {
                broken("it imports " + imports.group(1));
            }
        }
        for (int i = 0; i < bare.length(); i++) {
            if (bare.charAt(i) > 126) {
                broken("a sign above 126 at " + i);
            }
        }
    }

    private static void methods(String bare) {
        Matcher heads = Pattern.compile("\n( +)(?:\\w+ )*[\\w\\[\\]]+ (\\w+)\\(([^)]*)\\) \\{\n").matcher(bare);
        int found = 0;
        while (heads.find()) {
            found++;
            if (heads.group(3).split(",").length > 7) {
                broken(heads.group(2) + " takes too many");
            }
            int end = bare.indexOf("\n" + heads.group(1) + "}", heads.end());
            long lines = bare.substring(heads.end(), end).chars().filter(c -> c == '\n').count();
            if (lines > 60) {
                broken(heads.group(2) + " has " + lines + " lines");
            }
        }
        if (found < 100) {
            broken("only " + found + " methods were looked at");
        }
    }

    private static void face() throws Exception {
        Set<String> names = new HashSet<>();
        int methods = 0;
        for (Method m : FourWheels.class.getDeclaredMethods()) {
            if (Modifier.isPublic(m.getModifiers())) {
                methods++;
                names.add(m.getName());
            } else if (!Modifier.isPrivate(m.getModifiers())) {
                broken(m + " can be seen");
            }
        }
        if (methods != 43 || names.size() != 43) {
            broken(methods + " public methods");
        }
        for (Field f : FourWheels.class.getDeclaredFields()) {
            if (!Modifier.isPrivate(f.getModifiers()) && !f.getName().equals("NONE")) {
                broken(f + " can be seen");
            }
        }
        Constructor<?>[] made = FourWheels.class.getDeclaredConstructors();
        if (made.length != 1 || made[0].getParameterCount() != 0 || !Modifier.isPublic(made[0].getModifiers())) {
            broken("constructors: " + Arrays.toString(made));
        }
        Class<?>[] inside = FourWheels.class.getDeclaredClasses();
        if (inside.length + 1 > 12) {
            broken((inside.length + 1) + " classes");
        }
        for (Class<?> c : inside) {
            if (!Modifier.isStatic(c.getModifiers())) {
                broken(c + " isn't static");
            }
            fields(c);
            for (Method m : c.getDeclaredMethods()) {
                if (names.contains(m.getName())) {
                    broken(m + " bears a public name");
                }
            }
        }
        fields(FourWheels.class);
        for (Method m : FourWheels.class.getDeclaredMethods()) {
            if (Modifier.isPrivate(m.getModifiers()) && names.contains(m.getName())) {
                broken(m + " bears a public name");
            }
        }
    }

    private static void fields(Class<?> c) {
        Map<Boolean, Integer> counts = new TreeMap<>();
        for (Field f : c.getDeclaredFields()) {
            boolean isStatic = Modifier.isStatic(f.getModifiers());
            counts.merge(isStatic, 1, Integer::sum);
            if (isStatic && (!Modifier.isFinal(f.getModifiers()) || f.getType() != int.class && f.getType() != String.class)) {
                broken(f + " is static");
            }
        }
        if (counts.getOrDefault(false, 0) > 20) {
            broken(c + " has " + counts.get(false) + " fields");
        }
    }

    private static void depth() throws Exception {
        Calls calls = new Calls();
        if (calls.methods() < 100) {
            broken("only the calls of " + calls.methods() + " methods were looked at");
        }
        for (String method : calls.all()) {
            if (calls.depth(method) > 8) {
                broken(method + " goes " + calls.depth(method) + " calls deep");
            }
        }
    }

    public static void main(String[] args) throws IOException, Exception {
        String bare = withoutComments(Files.readString(Path.of("src/main/java/FourWheels.java")));
        words(bare);
        methods(bare);
        face();
        depth();
        System.out.println("RulesTest: " + wrong + " rules broken");
        if (wrong != 0) {
            System.exit(1);
        }
    }
}
