import java.io.IOException;
import java.lang.reflect.Constructor;
import java.lang.reflect.Field;
import java.lang.reflect.Member;
import java.lang.reflect.Method;
import java.lang.reflect.Modifier;
import java.nio.file.Files;
import java.nio.file.Path;
import java.util.ArrayList;
import java.util.Arrays;
import java.util.List;
import java.util.Set;
import java.util.TreeSet;
import java.util.regex.Matcher;
import java.util.regex.Pattern;

/**
 * The public face as the document writes it, line by line, that each promise is of one line, and
 * that README.md tells of each method.
 */
public final class FaceTest {
    private static int wrong = 0;

    private static void fail(String what) {
        wrong++;
        System.out.println(what);
    }

    public static void main(String[] args) throws IOException, ReflectiveOperationException {
        String document = Files.readString(Path.of("../shared/DOC.md"));
        List<String> face = faceOf(document);
        Set<String> shown = shown();
        for (String line : face) {
            if (!shown.contains(line)) {
                fail("the class does not have: " + line);
            }
        }
        for (String line : shown) {
            if (!face.contains(line)) {
                fail("the document does not have: " + line);
            }
        }
        theClass();
        promises(document, face);
        readme(Files.readString(Path.of("README.md")));
        System.out.println(wrong == 0 ? "the face is the document's, of " + face.size() + " lines"
                : wrong + " lines are not as due");
        if (wrong != 0) {
            System.exit(1);
        }
    }

    /** Name, answer and how many numbers: names of arguments are not kept by the compiler. */
    private static List<String> faceOf(String document) {
        List<String> lines = new ArrayList<>();
        int from = document.indexOf("public final class PostHouses {");
        String block = document.substring(from, document.indexOf("```", from));
        Matcher members = Pattern.compile("(?m)^    public (.*);$").matcher(block);
        while (members.find()) {
            lines.add(inShort(members.group(1)));
        }
        return lines;
    }

    private static String inShort(String line) {
        return line.replaceAll("int \\w+(?=[,)])", "int");
    }

    private static Set<String> shown() throws ReflectiveOperationException {
        Set<String> lines = new TreeSet<>();
        for (Field f : PostHouses.class.getDeclaredFields()) {
            if (isShown(f)) {
                boolean isConstant = Modifier.isStatic(f.getModifiers())
                        && Modifier.isFinal(f.getModifiers()) && f.getType() == int.class;
                lines.add(isConstant ? "static final int " + f.getName() + " = " + f.getInt(null)
                        : f.toString());
            }
        }
        for (Constructor<?> c : PostHouses.class.getDeclaredConstructors()) {
            if (isShown(c)) {
                lines.add("PostHouses(" + arguments(c.getParameterTypes()) + ")");
            }
        }
        for (Method m : PostHouses.class.getDeclaredMethods()) {
            if (isShown(m)) {
                String still = Modifier.isStatic(m.getModifiers()) ? "static " : "";
                lines.add(still + m.getReturnType() + " " + m.getName() + "("
                        + arguments(m.getParameterTypes()) + ")");
            }
        }
        return lines;
    }

    private static boolean isShown(Member member) {
        return !Modifier.isPrivate(member.getModifiers()) && !member.isSynthetic();
    }

    private static String arguments(Class<?>[] types) {
        return String.join(", ", Arrays.stream(types).map(Class::getName).toList());
    }

    private static void theClass() {
        Class<?> c = PostHouses.class;
        if (!Modifier.isPublic(c.getModifiers()) || !Modifier.isFinal(c.getModifiers())) {
            fail("the class is not public and final");
        }
        if (c.getPackage() != null && !c.getPackage().getName().isEmpty()) {
            fail("the class has a package");
        }
        if (c.getSuperclass() != Object.class || c.getInterfaces().length != 0) {
            fail("the class stands on another one");
        }
        for (Class<?> inner : c.getDeclaredClasses()) {
            int flags = inner.getModifiers();
            if (Modifier.isPublic(flags) || Modifier.isProtected(flags)
                    || !Modifier.isStatic(flags)) {
                fail(inner + " can be seen, or is not static");
            }
        }
    }

    /** Promises 1, 2, 3 .. have the constructor's and the methods' lines in their order. */
    private static void promises(String document, List<String> face) {
        Matcher promises = Pattern.compile("## Promise (\\d+): (.*)\n\n`(.*)`: ").matcher(document);
        int number = 0;
        while (promises.find()) {
            number++;
            String line = number < face.size() ? face.get(number) : "";
            if (Integer.parseInt(promises.group(1)) != number
                    || !inShort(promises.group(3)).equals(line)) {
                fail("promise " + number + " is of " + promises.group(3) + ", not of " + line);
            }
        }
        if (number != 29 || number != face.size() - 1) {
            fail(number + " promises of " + face.size() + " lines");
        }
    }

    private static void readme(String text) {
        for (Method m : PostHouses.class.getDeclaredMethods()) {
            if (isShown(m) && !text.contains("`" + m.getName() + "`")
                    && !text.contains("`" + m.getName() + "()`")) {
                fail("README.md does not tell of " + m.getName());
            }
        }
    }
}
