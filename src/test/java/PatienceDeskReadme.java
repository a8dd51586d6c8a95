import java.io.IOException;
import java.lang.reflect.Method;
import java.nio.file.Files;
import java.nio.file.Path;
import java.util.Arrays;
import java.util.HashMap;
import java.util.Map;
import java.util.TreeSet;
import java.util.regex.Matcher;
import java.util.regex.Pattern;

/** The examples of README.md: each call answers the number that stands behind it, and no call is left out. */
public final class PatienceDeskReadme {
    private static final Path README = Path.of("README.md");
    private static final Pattern BLOCK = Pattern.compile("(?s)```java\n(.*?)```");
    private static final Pattern NEW = Pattern.compile("PatienceDesk desk = new PatienceDesk\\(\\);");
    private static final Pattern CALL = Pattern.compile("desk\\.(\\w+)\\(([-\\d, ]*)\\); +// (-?\\d+)\\b.*");
    private static final Map<String, Method> METHODS = new HashMap<>();
    private static final TreeSet<String> SHOWN = new TreeSet<>();
    private static PatienceDesk desk;
    private static int asked = 0;
    private static int wrong = 0;

    public static void main(String[] args) throws IOException, ReflectiveOperationException {
        for (Method method : PatienceDesk.class.getDeclaredMethods()) {
            METHODS.put(method.getName(), method);
        }
        Matcher blocks = BLOCK.matcher(Files.readString(README));
        while (blocks.find()) {
            for (String line : blocks.group(1).split("\n")) {
                read(line);
            }
        }
        allAreShown();
        System.out.println(asked + " answers, " + wrong + " of them not as due");
        if (wrong != 0) {
            System.exit(1);
        }
    }

    private static void read(String line) throws ReflectiveOperationException {
        if (NEW.matcher(line).matches()) {
            desk = new PatienceDesk();
            return;
        }
        Matcher call = CALL.matcher(line);
        if (desk == null || !call.matches() || !METHODS.containsKey(call.group(1))) {
            isWrong("no call with its answer: " + line);
            return;
        }
        asked++;
        SHOWN.add(call.group(1));
        int answer = (Integer) METHODS.get(call.group(1)).invoke(desk, numbers(call.group(2)));
        if (answer != Integer.parseInt(call.group(3))) {
            isWrong(line + " -- answered " + answer);
        }
    }

    private static Object[] numbers(String told) {
        return told.isEmpty() ? new Object[0] : Arrays.stream(told.split(", ")).map(Integer::valueOf).toArray();
    }

    /** make() has no example of its own: which deal a seed makes tells a reader nothing. */
    private static void allAreShown() {
        for (Method method : PatienceDesk.class.getMethods()) {
            boolean isOwn = method.getDeclaringClass() == PatienceDesk.class && !method.getName().equals("make");
            if (isOwn && !SHOWN.contains(method.getName())) {
                isWrong("no example of " + method.getName() + "()");
            }
        }
    }

    private static void isWrong(String what) {
        wrong++;
        System.out.println(what);
    }
}
