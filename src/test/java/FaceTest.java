import java.lang.reflect.Constructor;
import java.lang.reflect.Field;
import java.lang.reflect.Method;
import java.lang.reflect.Modifier;
import java.nio.file.Files;
import java.nio.file.Path;
import java.util.Set;
import java.util.TreeSet;
import java.util.regex.Matcher;
import java.util.regex.Pattern;

// The face is the document's and no more; the source keeps off what LANGUAGE.md rules out.
public final class FaceTest {
    private static int wrong = 0;

    private static void hold(boolean fine, String what) {
        if (!fine) {
            wrong++;
            System.out.println(what);
        }
    }

    public static void main(String[] args) throws Exception {
        constants();
        members();
        source();
        System.out.println(wrong == 0 ? "the face is as due" : wrong + " faults of the face");
        if (wrong != 0) {
            System.exit(1);
        }
    }

    private static void constants() {
        hold(BrassWays.UNKNOWN == -1, "UNKNOWN");
        hold(BrassWays.OUTSIDE == -2, "OUTSIDE");
        hold(BrassWays.STATE == -3, "STATE");
        hold(BrassWays.FULL == -4, "FULL");
        hold(BrassWays.NO == -5, "NO");
        hold(BrassWays.NONE == -6, "NONE");
    }

    private static void members() {
        Set<String> due = new TreeSet<>(Set.of("horn/1", "valve/2", "rule/2", "lowers/1", "off/2",
                "ways/2", "truest/1", "range/1", "note/1", "set/2"));
        due.addAll(Set.of("clear/0", "effort/2", "least/1", "plans/1", "dumb/0", "trill/2",
                "awkward/2", "tune/2", "image/1", "restore/1"));
        due.add("count/1");
        Set<String> found = new TreeSet<>();
        Set<String> names = new TreeSet<>();
        for (Method m : BrassWays.class.getDeclaredMethods()) {
            if (Modifier.isPublic(m.getModifiers())) {
                found.add(m.getName() + "/" + m.getParameterCount());
                names.add(m.getName());
                Class<?> type = m.getName().equals("plans") ? long.class : int.class;
                hold(m.getReturnType() == type, m + " answers another type");
            }
        }
        hold(found.equals(due), "the public methods are " + found);
        privateRest(BrassWays.class, names);
        for (Class<?> inside : BrassWays.class.getDeclaredClasses()) {
            hold(Modifier.isStatic(inside.getModifiers()), inside + " is not static");
            for (Method m : inside.getDeclaredMethods()) {
                hold(!names.contains(m.getName()), m + " bears the name of a public method");
            }
        }
    }

    private static void privateRest(Class<?> face, Set<String> names) {
        for (Method m : face.getDeclaredMethods()) {
            boolean open = Modifier.isPublic(m.getModifiers());
            hold(open || Modifier.isPrivate(m.getModifiers()), m + " is not private");
            hold(open || !names.contains(m.getName()), m + " bears the name of a public method");
        }
        Set<String> constants = Set.of("UNKNOWN", "OUTSIDE", "STATE", "FULL", "NO", "NONE");
        for (Field f : face.getDeclaredFields()) {
            boolean open = constants.contains(f.getName());
            hold(open ? Modifier.isPublic(f.getModifiers()) : Modifier.isPrivate(f.getModifiers()),
                    f + " is seen otherwise than due");
            hold(!Modifier.isStatic(f.getModifiers()) || Modifier.isFinal(f.getModifiers()),
                    f + " is static and not final");
        }
        Constructor<?>[] made = face.getDeclaredConstructors();
        hold(made.length == 1 && made[0].getParameterCount() == 0
                && Modifier.isPublic(made[0].getModifiers()), "the constructor");
        hold(Modifier.isFinal(face.getModifiers()), "the class is not final");
    }

    private static void source() throws Exception {
        String text = Files.readString(Path.of("src/main/java/BrassWays.java"));
        String code = text.replaceAll("(?s)/\\*.*?\\*/", "").replaceAll("//[^\n]*", "");
        Pattern ruledOut = Pattern.compile("\\b(throw|throws|try|catch|synchronized|assert|import|package"
                + "|\\w+Exact|equals|hashCode|toString)\\b|->|::");
        Matcher m = ruledOut.matcher(code);
        while (m.find()) {
            hold(false, "the source has " + m.group());
        }
        hold(text.chars().allMatch(c -> c < 128), "the source has signs beyond 127");
    }
}
