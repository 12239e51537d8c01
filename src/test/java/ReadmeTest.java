import java.lang.reflect.Method;
import java.nio.file.Files;
import java.nio.file.Path;
import java.util.Map;
import java.util.Set;
import java.util.TreeMap;
import java.util.TreeSet;
import java.util.regex.Matcher;
import java.util.regex.Pattern;

// README.md shows each call of the face, and each answers what is told there behind it.
public final class ReadmeTest {
    private static final Pattern CALL =
            Pattern.compile("horn\\.(\\w+)\\(([-0-9, ]*)\\); +// (-?[0-9]+)(:.*)?");
    private static int wrong = 0;

    private static void hold(boolean fine, String what) {
        if (!fine) {
            wrong++;
            System.out.println(what);
        }
    }

    public static void main(String[] args) throws Exception {
        Map<String, Method> face = new TreeMap<>();
        for (Method m : BrassWays.class.getMethods()) {
            if (m.getDeclaringClass() == BrassWays.class) {
                face.put(m.getName(), m);
            }
        }
        Set<String> missing = new TreeSet<>(face.keySet());
        BrassWays horn = new BrassWays();
        for (String line : exampleLines()) {
            if (!line.startsWith("horn.")) {
                continue;
            }
            Matcher call = CALL.matcher(line);
            boolean isTold = call.matches() && face.containsKey(call.group(1));
            hold(isTold, "not a call with its answer: " + line);
            if (isTold) {
                long got = answer(horn, face.get(call.group(1)), call.group(2));
                hold(got == Long.parseLong(call.group(3)), line + " answered " + got);
                missing.remove(call.group(1));
            }
        }
        hold(missing.isEmpty(), "README.md does not show " + missing);
        System.out.println(wrong == 0 ? "README.md is as due" : wrong + " faults of README.md");
        if (wrong != 0) {
            System.exit(1);
        }
    }

    private static String[] exampleLines() throws Exception {
        Matcher block = Pattern.compile("(?s)```java\n(.*?)```")
                .matcher(Files.readString(Path.of("README.md")));
        return block.find() ? block.group(1).split("\n") : new String[0];
    }

    private static long answer(BrassWays horn, Method call, String numbers) throws Exception {
        String[] told = numbers.isBlank() ? new String[0] : numbers.split(", *");
        Object[] given = new Object[told.length];
        for (int i = 0; i < told.length; i++) {
            given[i] = Integer.valueOf(told[i]);
        }
        return ((Number) call.invoke(horn, given)).longValue();
    }
}
