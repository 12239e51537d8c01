import java.lang.reflect.Constructor;
import java.lang.reflect.Executable;
import java.lang.reflect.Field;
import java.lang.reflect.Method;
import java.lang.reflect.Modifier;
import java.nio.file.Files;
import java.nio.file.Path;
import java.util.Set;
import java.util.StringJoiner;
import java.util.TreeSet;
import java.util.regex.Matcher;
import java.util.regex.Pattern;

// The face is the document's and no more; the source keeps off what LANGUAGE.md rules out.
public final class FaceTest {
    private static int wrong = 0;

    private static void hold(boolean fine, String what) {
        if (!fine) {
            wrong++;
            System.out.println(what);
        }
    }

    public static void main(String[] args) throws Exception {
        constants();
        members();
        measures();
        source();
        libraryCalls();
        noCallMakesObjects();
        System.out.println(wrong == 0 ? "the face is as due" : wrong + " faults of the face");
        if (wrong != 0) {
            System.exit(1);
        }
    }

    private static void constants() {
        hold(BrassWays.UNKNOWN == -1, "UNKNOWN");
        hold(BrassWays.OUTSIDE == -2, "OUTSIDE");
        hold(BrassWays.STATE == -3, "STATE");
        hold(BrassWays.FULL == -4, "FULL");
        hold(BrassWays.NO == -5, "NO");
        hold(BrassWays.NONE == -6, "NONE");
    }

    /** The constructor and methods of the face, as the document writes it out. */
    private static Set<String> toldFace() throws Exception {
        String text = Files.readString(Path.of("../shared/DOC.md"));
        int from = text.indexOf("public final class BrassWays {");
        Set<String> told = new TreeSet<>();
        for (String line : text.substring(from, text.indexOf("\n}", from)).split("\n")) {
            // Names of parameters are not part of the face.
            if (line.endsWith(");")) {
                told.add(line.strip().replaceAll("(int|long) \\w+([,)])", "$1$2").replace(";", ""));
            }
        }
        return told;
    }

    private static String words(Executable e, String start) {
        StringJoiner types = new StringJoiner(", ", start + "(", ")");
        for (Class<?> type : e.getParameterTypes()) {
            types.add(type.getName());
        }
        return types.toString();
    }

    private static void members() throws Exception {
        Set<String> found = new TreeSet<>();
        Set<String> names = new TreeSet<>();
        for (Method m : BrassWays.class.getDeclaredMethods()) {
            if (Modifier.isPublic(m.getModifiers())) {
                String start = Modifier.toString(m.getModifiers()) + " " + m.getReturnType();
                found.add(words(m, start + " " + m.getName()));
                names.add(m.getName());
            }
        }
        for (Constructor<?> made : BrassWays.class.getConstructors()) {
            found.add(words(made, "public BrassWays"));
        }
        hold(found.size() == 22, "the face has " + found.size() + " methods and constructors");
        hold(found.equals(toldFace()), "the face is " + found + ", told is " + toldFace());
        privateRest(BrassWays.class, names);
        for (Class<?> inside : BrassWays.class.getDeclaredClasses()) {
            hold(Modifier.isStatic(inside.getModifiers()), inside + " is not static");
            hold(!Modifier.isPublic(inside.getModifiers()), inside + " is public");
            for (Method m : inside.getDeclaredMethods()) {
                hold(!names.contains(m.getName()), m + " bears the name of a public method");
            }
        }
    }

    private static void privateRest(Class<?> face, Set<String> names) {
        for (Method m : face.getDeclaredMethods()) {
            boolean open = Modifier.isPublic(m.getModifiers());
            hold(open || Modifier.isPrivate(m.getModifiers()), m + " is not private");
            hold(open || !names.contains(m.getName()), m + " bears the name of a public method");
        }
        Set<String> constants = Set.of("UNKNOWN", "OUTSIDE", "STATE", "FULL", "NO", "NONE");
        for (Field f : face.getDeclaredFields()) {
            boolean open = constants.contains(f.getName());
            hold(open ? Modifier.isPublic(f.getModifiers()) : Modifier.isPrivate(f.getModifiers()),
                    f + " is seen otherwise than due");
            hold(!Modifier.isStatic(f.getModifiers()) || Modifier.isFinal(f.getModifiers()),
                    f + " is static and not final");
        }
        Constructor<?>[] made = face.getDeclaredConstructors();
        hold(made.length == 1 && made[0].getParameterCount() == 0
                && Modifier.isPublic(made[0].getModifiers()), "the constructor");
        hold(Modifier.isFinal(face.getModifiers()), "the class is not final");
    }

    /** Rules 3, 5 and 11 of LANGUAGE.md, as far as the compiled classes show them. */
    private static void measures() {
        Class<?>[] inside = BrassWays.class.getDeclaredClasses();
        hold(inside.length < 12, "there are " + (inside.length + 1) + " classes");
        measure(BrassWays.class);
        for (Class<?> c : inside) {
            measure(c);
        }
    }

    private static void measure(Class<?> c) {
        Set<Class<?>> constants = Set.of(int.class, long.class, boolean.class, char.class,
                int[].class, long[].class, char[].class, byte[].class);
        int fields = 0;
        for (Field f : c.getDeclaredFields()) {
            boolean shared = Modifier.isStatic(f.getModifiers());
            fields += shared ? 0 : 1;
            hold(isOwnOrNumber(f.getType()), f + " is of a type that is ruled out");
            hold(!shared || Modifier.isFinal(f.getModifiers()) && constants.contains(f.getType()),
                    f + " is static state");
        }
        hold(fields <= 20, c + " has " + fields + " fields");
        for (Method m : c.getDeclaredMethods()) {
            hold(m.getParameterCount() <= 7, m + " takes too many parameters");
            hold(isOwnOrNumber(m.getReturnType()), m + " answers a type that is ruled out");
            for (Class<?> type : m.getParameterTypes()) {
                hold(isOwnOrNumber(type), m + " takes a type that is ruled out");
            }
        }
    }

    /** Stricter than rule 3: the program needs no texts and no lists. */
    private static boolean isOwnOrNumber(Class<?> type) {
        Class<?> plain = type.isArray() ? type.getComponentType() : type;
        return plain.isPrimitive() || plain.getName().startsWith("BrassWays$");
    }

    private static String code() throws Exception {
        String text = Files.readString(Path.of("src/main/java/BrassWays.java"));
        return text.replaceAll("(?s)/\\*.*?\\*/", "").replaceAll("//[^\n]*", "");
    }

    /** Rule 4: what is asked of the library is on its list. */
    private static void libraryCalls() throws Exception {
        Set<String> listed = Set.of("Math.abs", "Math.max", "Math.min", "Integer.bitCount",
                "System.arraycopy");
        Matcher m = Pattern.compile("\\b[A-Z]\\w*\\.\\w+").matcher(code());
        while (m.find()) {
            hold(listed.contains(m.group()), "the source has " + m.group());
        }
    }

    /** All calls share one room, so rows are made with the object and used again. */
    private static void noCallMakesObjects() throws Exception {
        for (String line : code().split("\n")) {
            boolean isField = line.matches(" +(private )?final \\S+ \\w+ = .*;");
            hold(isField || !line.matches(".*(\\bnew\\b|\\.clone\\().*"), "made by a call: " + line.strip());
        }
    }

    private static void source() throws Exception {
        String text = Files.readString(Path.of("src/main/java/BrassWays.java"));
        Pattern ruledOut = Pattern.compile("\\b(throw|throws|try|catch|synchronized|assert|import|package"
                + "|\\w+Exact|equals|hashCode|toString)\\b|->|::");
        Matcher m = ruledOut.matcher(code());
        while (m.find()) {
            hold(false, "the source has " + m.group());
        }
        hold(text.chars().allMatch(c -> c < 128), "the source has signs beyond 127");
    }
}
