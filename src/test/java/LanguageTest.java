import java.io.IOException;
import java.lang.reflect.Constructor;
import java.lang.reflect.Field;
import java.lang.reflect.Method;
import java.lang.reflect.Modifier;
import java.nio.file.Files;
import java.nio.file.Path;
import java.util.ArrayList;
import java.util.List;
import java.util.Set;
import java.util.TreeSet;
import java.util.regex.Matcher;
import java.util.regex.Pattern;

/** What can be seen from outside of the rules that the program keeps to (LANGUAGE.md). */
public final class LanguageTest {
    private static final String FACE = "count cut date end error explained fault feed fences frame "
            + "hole house houses kinds led pair phase phases place plough retell spot stands start "
            + "status strength strike trench";
    private static final String FORBIDDEN = "\\b(throw|throws|try|catch|finally|synchronized|assert|"
            + "volatile|transient|native|strictfp|System\\.out|System\\.nanoTime|Random|Thread)\\b"
            + "|->|::|while \\(true\\)|for \\(;|\"\" \\+|\\+ \"\"";

    private static int wrong = 0;

    private static void fail(int rule, String what) {
        wrong++;
        System.out.println("rule " + rule + ": " + what);
    }

    public static void main(String[] args) throws IOException {
        List<Class<?>> classes = new ArrayList<>();
        classes.add(PostHouses.class);
        classes.addAll(List.of(PostHouses.class.getDeclaredClasses()));
        face();
        for (Class<?> c : classes) {
            members(c);
        }
        if (classes.size() > 12) {
            fail(11, classes.size() + " classes");
        }
        text(Files.readString(Path.of("src/main/java/PostHouses.java")));
        System.out.println(wrong == 0 ? "the language is kept to" : wrong + " breaches");
        if (wrong != 0) {
            System.exit(1);
        }
    }

    private static void face() {
        int flags = PostHouses.class.getModifiers();
        if (!Modifier.isPublic(flags) || !Modifier.isFinal(flags)) {
            fail(1, "the class is not public and final");
        }
        Set<String> shown = new TreeSet<>();
        Set<String> hidden = new TreeSet<>();
        for (Method m : PostHouses.class.getDeclaredMethods()) {
            (Modifier.isPrivate(m.getModifiers()) ? hidden : shown).add(m.getName());
        }
        if (!String.join(" ", shown).equals(FACE)) {
            fail(1, "the face is " + shown);
        }
        for (Field f : PostHouses.class.getDeclaredFields()) {
            if (!Modifier.isPrivate(f.getModifiers()) && !f.getName().equals("NONE")) {
                fail(1, f + " can be seen");
            }
        }
        for (Class<?> c : PostHouses.class.getDeclaredClasses()) {
            for (Method m : c.getDeclaredMethods()) {
                hidden.add(m.getName());
            }
        }
        hidden.retainAll(shown);
        if (!hidden.isEmpty()) {
            fail(1, hidden + " bear the names of public ones");
        }
    }

    private static void members(Class<?> c) {
        if (c != PostHouses.class && !Modifier.isStatic(c.getModifiers())) {
            fail(2, c + " is not static");
        }
        int fields = 0;
        for (Field f : c.getDeclaredFields()) {
            if (!Modifier.isStatic(f.getModifiers())) {
                fields++;
            } else if (!Modifier.isFinal(f.getModifiers())) {
                fail(5, f + " is not final");
            }
        }
        if (fields > 20) {
            fail(11, c + " has " + fields + " fields");
        }
        for (Method m : c.getDeclaredMethods()) {
            if (m.getParameterCount() > 7) {
                fail(11, m + " has too many parameters");
            }
        }
        for (Constructor<?> m : c.getDeclaredConstructors()) {
            if (m.getParameterCount() > 7) {
                fail(11, m + " has too many parameters");
            }
        }
    }

    private static void text(String source) {
        String bare = source.replaceAll("(?s)/\\*.*?\\*/", "").replaceAll("//[^\n]*", "")
                .replaceAll("\"[^\"]*\"", "\"\"");
        Matcher words = Pattern.compile(FORBIDDEN).matcher(bare);
        while (words.find()) {
            fail(6, words.group() + " stands in the text");
        }
        Matcher imports = Pattern.compile("import ([^;]*);").matcher(bare);
        while (imports.find()) {
            if (!imports.group(1).matches("java\\.util\\.(Arrays|ArrayList|List)")) {
                fail(4, "import of " + imports.group(1));
            }
        }
        Matcher calls = Pattern.compile("\\b(Math|Integer|Long|Arrays|System)\\.(\\w+)").matcher(bare);
        while (calls.find()) {
            if (calls.group(2).endsWith("Exact")
                    || calls.group(1).equals("System") && !calls.group(2).equals("arraycopy")
                    || calls.group(1).equals("Arrays")
                    && !calls.group(2).matches("copyOf|copyOfRange|fill")) {
                fail(4, "call of " + calls.group());
            }
        }
        for (char sign : source.toCharArray()) {
            if (sign > 126) {
                fail(3, "sign " + (int) sign);
            }
        }
        methodLengths(source);
    }

    private static void methodLengths(String source) {
        String[] lines = source.split("\n");
        for (int i = 0; i < lines.length; i++) {
            if (!lines[i].matches(" {4}( {4})?\\w[\\w\\[\\] ]*\\([^;]*\\{")
                    && !lines[i].matches(" {4}( {4})?\\w[\\w\\[\\] ]*\\([^;{]*")) {
                continue;
            }
            String close = lines[i].replaceAll("\\S.*", "") + "}";
            int end = i;
            while (end < lines.length && !lines[end].equals(close)) {
                end++;
            }
            if (end - i + 1 > 60) {
                fail(11, lines[i].trim() + " has " + (end - i + 1) + " lines");
            }
        }
    }
}
