import java.io.IOException;
import java.lang.reflect.Method;
import java.lang.reflect.Modifier;
import java.nio.charset.StandardCharsets;
import java.nio.file.Files;
import java.nio.file.Path;
import java.util.HashMap;
import java.util.Map;
import java.util.Set;
import java.util.TreeSet;
import java.util.regex.Matcher;
import java.util.regex.Pattern;

/**
 * The examples of README.md, line by line: a call must answer what stands behind it, and each call of the face must be
 * in one of them. Run from the project's folder.
 */
public final class ReadmeTest {
    private static final String NEW = "RiverCompact river = new RiverCompact();";
    private static final Pattern EXAMPLE = Pattern.compile("(?s)```java\n(" + Pattern.quote(NEW) + ".*?)```");
    private static final Pattern FEED = Pattern.compile("feed\\(river, \"([^\"]*)\"\\);");
    private static final Pattern CALL =
        Pattern.compile("river\\.(\\w+)\\(([^)]*)\\); +// (-?\\d+|[A-Z]+)(?![\\w.])(?:: .*)?");

    private final Check check = new Check("ReadmeTest");
    private final Map<String, Method> face = new HashMap<>();
    private final Set<String> unseen = new TreeSet<>();
    private RiverCompact river;

    public static void main(String[] args) throws IOException, ReflectiveOperationException {
        ReadmeTest test = new ReadmeTest();
        test.findFace();
        Matcher example = EXAMPLE.matcher(Files.readString(Path.of("README.md"), StandardCharsets.UTF_8));
        while (example.find()) {
            test.work(example.group(1));
        }
        test.check.part("the face");
        test.check.isTrue("no example of " + test.unseen, test.unseen.isEmpty());
        test.check.end();
    }

    private void findFace() {
        for (Method method : RiverCompact.class.getDeclaredMethods()) {
            if (Modifier.isPublic(method.getModifiers())) {
                face.put(method.getName(), method);
                unseen.add(method.getName());
            }
        }
    }

    private void work(String example) throws ReflectiveOperationException {
        for (String line : example.split("\n")) {
            check.part("\"" + line.trim() + "\"");
            Matcher feed = FEED.matcher(line);
            Matcher call = CALL.matcher(line);
            if (line.equals(NEW)) {
                river = new RiverCompact();
            } else if (feed.matches()) {
                Rivers.feed(river, feed.group(1));
            } else if (call.matches() && face.containsKey(call.group(1))) {
                unseen.remove(call.group(1));
                check.due(call.group(1), answer(face.get(call.group(1)), call.group(2)), due(call.group(3)));
            } else {
                check.isTrue("a line with an answer", line.isBlank());
            }
        }
    }

    private long answer(Method method, String words) throws ReflectiveOperationException {
        String[] numbers = words.isEmpty() ? new String[0] : words.split(", ");
        Class<?>[] types = method.getParameterTypes();
        Object[] given = new Object[types.length];
        for (int i = 0; i < types.length; i++) {
            if (types[i] == long.class) {
                given[i] = Long.decode(numbers[i].replace("L", ""));
            } else {
                given[i] = Integer.decode(numbers[i]);
            }
        }
        return ((Number) method.invoke(river, given)).longValue();
    }

    private static long due(String words) throws ReflectiveOperationException {
        if (Character.isUpperCase(words.charAt(0))) {
            return ((Number) RiverCompact.class.getField(words).get(null)).longValue();
        }
        return Long.parseLong(words);
    }
}
