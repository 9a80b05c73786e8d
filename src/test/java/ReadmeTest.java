import java.io.IOException;
import java.lang.reflect.Method;
import java.lang.reflect.Modifier;
import java.nio.file.Files;
import java.nio.file.Path;
import java.util.Arrays;
import java.util.Set;
import java.util.TreeSet;
import java.util.regex.Matcher;
import java.util.regex.Pattern;

/** README.md: each call of its example answers as the comment beside it says, and each call is named. */
public final class ReadmeTest {
    private static final Checks C = new Checks();
    private static final Pattern TEXT = Pattern.compile("\"([^\"]*)\"\\.toCharArray\\(\\)");
    private static final Pattern CALL = Pattern.compile("desk\\.(\\w+)\\(([-0-9, ]*)\\); *// (-?[0-9]+)\\b.*");

    public static void main(String[] args) throws IOException, ReflectiveOperationException {
        String readme = Files.readString(Path.of(System.getProperty("readme", "README.md")));
        example(readme.replaceAll("(?s).*?```java\n(.*?)```.*", "$1"));
        everyCallIsNamed(readme);
        C.end();
    }

    private static void example(String block) throws ReflectiveOperationException {
        QuarrelDesk desk = new QuarrelDesk();
        int made = 0;
        for (String line : block.split("\n")) {
            Matcher text = TEXT.matcher(line);
            if (text.find()) {
                Checks.written(desk, text.group(1));
            }
            Matcher call = CALL.matcher(line);
            if (call.matches()) {
                C.due("README: " + line, answer(desk, call.group(1), call.group(2)), Long.parseLong(call.group(3)));
                made++;
            } else {
                C.due("README: a call with its answer: " + line, line.startsWith("desk.") ? 1 : 0, 0);
            }
        }
        C.due("README: calls in the example", made >= 15 ? 1 : 0, 1);
    }

    private static int answer(QuarrelDesk desk, String name, String list) throws ReflectiveOperationException {
        Object[] numbers = Arrays.stream(list.split(", *")).filter(n -> !n.isEmpty()).map(Integer::valueOf).toArray();
        Class<?>[] types = new Class<?>[numbers.length];
        Arrays.fill(types, int.class);
        return (int) QuarrelDesk.class.getMethod(name, types).invoke(desk, numbers);
    }

    private static void everyCallIsNamed(String readme) {
        Set<String> missing = new TreeSet<>();
        for (Method method : QuarrelDesk.class.getDeclaredMethods()) {
            if (Modifier.isPublic(method.getModifiers()) && !readme.contains("`" + method.getName() + "(")) {
                missing.add(method.getName());
            }
        }
        C.due("README: calls that are not named: " + missing, missing.size(), 0);
    }
}
