import java.io.IOException;
import java.lang.reflect.InvocationTargetException;
import java.lang.reflect.Method;
import java.lang.reflect.Modifier;
import java.nio.file.Files;
import java.nio.file.Path;
import java.util.HashMap;
import java.util.Map;
import java.util.regex.Matcher;
import java.util.regex.Pattern;

/** README.md's example answers as its comments say, and its table names every call. */
public final class ReadmeTest {
    private static final Check CHECK = new Check("ReadmeTest");
    private static final Pattern FED = Pattern.compile("for \\(char c : \"([^\"]*)\"\\.toCharArray\\(\\)\\) x\\.feed\\(c\\);");
    private static final Pattern CALL = Pattern.compile("x\\.(\\w+)\\(([^)]*)\\); +// (-?\\d+).*");
    private static final int LEAST_CALLS = 15;

    public static void main(String[] args) throws IOException, ReflectiveOperationException {
        String text = Files.readString(Path.of("README.md"));
        Map<String, Method> calls = new HashMap<>();
        for (Method method : ColourStacks.class.getDeclaredMethods()) {
            if (Modifier.isPublic(method.getModifiers())) calls.put(method.getName(), method);
        }
        example(between(text, "```java\n", "```"), calls);
        String table = between(text, "| what for", "\n\n");
        for (String name : calls.keySet()) CHECK.holds("the table has " + name, table.contains("`" + name + "`"));
        CHECK.done();
    }

    private static String between(String text, String from, String to) {
        int begin = text.indexOf(from);
        CHECK.holds("README.md has " + from, begin >= 0);
        int end = text.indexOf(to, Math.max(0, begin) + from.length());
        return begin < 0 || end < 0 ? "" : text.substring(begin + from.length(), end);
    }

    private static void example(String lines, Map<String, Method> calls)
            throws IllegalAccessException, InvocationTargetException {
        ColourStacks x = new ColourStacks();
        int made = 0;
        for (String line : lines.split("\n")) {
            if (line.equals("ColourStacks x = new ColourStacks();")) continue;
            Matcher fed = FED.matcher(line);
            Matcher call = CALL.matcher(line);
            if (fed.matches()) {
                Check.feedAll(x, fed.group(1));
            } else if (call.matches() && calls.containsKey(call.group(1))) {
                Object answer = calls.get(call.group(1)).invoke(x, numbers(call.group(2)));
                CHECK.due(line, ((Number) answer).longValue(), Long.parseLong(call.group(3)));
                made++;
            } else {
                CHECK.holds("a line of the example is a call: " + line, false);
            }
        }
        CHECK.holds("the example has its calls", made >= LEAST_CALLS);
    }

    private static Object[] numbers(String list) {
        if (list.isEmpty()) return new Object[0];
        String[] told = list.split(", ");
        Object[] numbers = new Object[told.length];
        for (int i = 0; i < told.length; i++) numbers[i] = Integer.parseInt(told[i]);
        return numbers;
    }
}
