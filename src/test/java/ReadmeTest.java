import java.io.IOException;
import java.lang.reflect.Method;
import java.lang.reflect.Modifier;
import java.nio.file.Files;
import java.nio.file.Path;
import java.util.Set;
import java.util.TreeSet;
import java.util.regex.Matcher;
import java.util.regex.Pattern;

/**
 * Makes the calls of the example in README.md, in their order, and compares
 * each answer with the one that stands behind it. Also, README.md names every
 * call of the face. It is run from the folder in which README.md lies.
 */
public final class ReadmeTest {
    private static final Pattern CALL =
        Pattern.compile("room\\.(\\w+)\\(([-\\d, ]*)\\);\\s*// answers (-?\\w+).*");

    private static int wrong = 0;

    private static void complain(String text) {
        wrong++;
        System.out.println("README.md: " + text);
    }

    private static Object[] numbers(String arguments) {
        if (arguments.isBlank()) {
            return new Object[0];
        }
        String[] texts = arguments.split(",");
        Object[] numbers = new Object[texts.length];
        for (int i = 0; i < texts.length; i++) {
            numbers[i] = Integer.valueOf(texts[i].strip());
        }
        return numbers;
    }

    private static Method method(String name) {
        for (Method m : InputRoom.class.getMethods()) {
            if (m.getName().equals(name)) {
                return m;
            }
        }
        throw new IllegalArgumentException(name);
    }

    private static void checkCall(InputRoom room, String line) throws ReflectiveOperationException {
        Matcher call = CALL.matcher(line);
        if (!call.matches()) {
            complain("no call with its answer: " + line);
            return;
        }
        String got = String.valueOf(method(call.group(1)).invoke(room, numbers(call.group(2))));
        String due = call.group(3).equals("NONE") ? String.valueOf(InputRoom.NONE) : call.group(3);
        if (!got.equals(due)) {
            complain(line + " -- it answered " + got);
        }
    }

    private static int checkExample(String readme) throws ReflectiveOperationException {
        int start = readme.indexOf("```java\n");
        int end = readme.indexOf("```\n", start + 1);
        if (start < 0 || end < 0) {
            complain("no example");
            return 0;
        }
        String[] lines = readme.substring(start, end).split("\n");
        if (lines.length < 3 || !lines[1].equals("InputRoom room = new InputRoom();")) {
            complain("the example does not begin with a new room and a call");
            return 0;
        }
        InputRoom room = new InputRoom();
        for (int i = 2; i < lines.length; i++) {
            checkCall(room, lines[i]);
        }
        return lines.length - 2;
    }

    private static void checkAllCallsAreNamed(String readme) {
        Set<String> missing = new TreeSet<>();
        for (Method m : InputRoom.class.getDeclaredMethods()) {
            boolean shown = Modifier.isPublic(m.getModifiers());
            if (shown && !readme.contains("`" + m.getName() + "(")) {
                missing.add(m.getName());
            }
        }
        if (!missing.isEmpty()) {
            complain("does not name " + missing);
        }
    }

    public static void main(String[] args) throws IOException, ReflectiveOperationException {
        String readme = Files.readString(Path.of("README.md"));
        int calls = checkExample(readme);
        checkAllCallsAreNamed(readme);
        System.out.println(wrong == 0 ? calls + " calls of README.md answer as it says" : wrong + " faults in README.md");
        if (wrong != 0) {
            System.exit(1);
        }
    }
}
