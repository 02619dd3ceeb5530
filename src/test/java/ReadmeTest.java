import java.io.IOException;
import java.lang.reflect.Method;
import java.lang.reflect.Modifier;
import java.nio.file.Files;
import java.nio.file.Path;
import java.util.Arrays;
import java.util.HashMap;
import java.util.Map;
import java.util.Set;
import java.util.TreeSet;
import java.util.regex.Matcher;
import java.util.regex.Pattern;

/**
 * The examples of README.md are read from it and made call by call, so that what it says can't
 * come apart from what the class answers. It is run in the folder where README.md stands.
 */
public final class ReadmeTest {
    private static final Pattern MAKING =
            Pattern.compile("QueueDrive (\\w+) = new QueueDrive\\((-?\\d+)\\);( +//.*)?");
    private static final Pattern CALL =
            Pattern.compile("(\\w+)\\.(\\w+)\\(([-\\d, ]*)\\); +// (-?\\w+)(: .+)?");
    private static final Pattern CONSTANT = Pattern.compile("\\| `([A-Z]+)` \\| (-?\\d+) \\|.*");
    private static final int MOST_CALLS = 512;

    private static final Check check = new Check();
    private static final Set<String> methods = new TreeSet<>();
    private static final Set<String> answers = new TreeSet<>();
    private static final Set<String> constants = new TreeSet<>();

    // Each example stands for itself, so it has no drive but those that it makes.
    private final Map<String, QueueDrive> drives = new HashMap<>();
    private int calls;

    public static void main(String[] args) throws IOException, ReflectiveOperationException {
        ReadmeTest example = null;
        int number = 0;
        for (String line : Files.readAllLines(Path.of("README.md"))) {
            number++;
            if (line.startsWith("```")) {
                example = example == null && line.equals("```java") ? new ReadmeTest() : null;
            } else if (example != null) {
                example.follow("README.md, line " + number, line);
            } else {
                constant("README.md, line " + number, line);
            }
        }
        nothingIsLeftOut();
        check.end();
    }

    private void follow(String where, String line) throws ReflectiveOperationException {
        Matcher making = MAKING.matcher(line);
        Matcher call = CALL.matcher(line);
        if (making.matches()) {
            drives.put(making.group(1), new QueueDrive(Integer.parseInt(making.group(2))));
        } else if (call.matches()) {
            calls++;
            check.due(where + ": within the calls of a drive", calls <= MOST_CALLS ? 1 : 0, 1);
            check.due(where + ": its drive is made", drives.containsKey(call.group(1)) ? 1 : 0, 1);
            check.due(where + ": " + line.substring(0, line.indexOf(';')),
                    answer(call.group(1), call.group(2), call.group(3)), due(call.group(4)));
        } else {
            check.same(where + ": a line of an example", line, "a call with its answer");
        }
    }

    private long answer(String drive, String name, String numbers)
            throws ReflectiveOperationException {
        String[] texts = numbers.isBlank() ? new String[0] : numbers.split(", ");
        Object[] values = new Object[texts.length];
        for (int i = 0; i < texts.length; i++) {
            values[i] = Integer.valueOf(texts[i]);
        }
        methods.add(name);
        return ((Number) method(name, texts.length).invoke(drives.get(drive), values)).longValue();
    }

    private static Method method(String name, int numbers) throws NoSuchMethodException {
        Class<?>[] types = new Class<?>[numbers];
        Arrays.fill(types, int.class);
        return QueueDrive.class.getMethod(name, types);
    }

    private static long due(String answer) throws ReflectiveOperationException {
        if (answer.matches("-?\\d+")) {
            return Long.parseLong(answer);
        }
        answers.add(answer);
        return QueueDrive.class.getField(answer).getLong(null);
    }

    private static void constant(String where, String line) throws ReflectiveOperationException {
        Matcher row = CONSTANT.matcher(line);
        if (row.matches()) {
            constants.add(row.group(1));
            check.due(where + ": " + row.group(1),
                    QueueDrive.class.getField(row.group(1)).getLong(null),
                    Long.parseLong(row.group(2)));
        }
    }

    /** A README whose examples were not found must not pass for one whose examples hold. */
    private static void nothingIsLeftOut() {
        Set<String> all = new TreeSet<>();
        for (Method method : QueueDrive.class.getDeclaredMethods()) {
            if (Modifier.isPublic(method.getModifiers())) {
                all.add(method.getName());
            }
        }
        check.same("the methods that the examples call", methods.toString(), all.toString());
        String refusals = new TreeSet<>(Set.of("REFUSED", "FULL", "BUSY", "NONE")).toString();
        check.same("the constants that the examples answer", answers.toString(), refusals);
        check.same("the constants whose values are told", constants.toString(), refusals);
    }
}
