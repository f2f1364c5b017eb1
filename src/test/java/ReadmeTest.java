import java.io.IOException;
import java.lang.reflect.Method;
import java.lang.reflect.Modifier;
import java.nio.file.Files;
import java.nio.file.Path;
import java.util.HashSet;
import java.util.Map;
import java.util.Set;
import java.util.regex.Matcher;
import java.util.regex.Pattern;

/** Makes the calls of README.md's examples: each answers what stands behind it, and every call is shown. */
public final class ReadmeTest {
    private static final Pattern CALL = Pattern.compile("school\\.(\\w+)\\((.*?)\\);\\s*// (\\S+).*");
    private static final Map<String, Integer> CONSTANTS = Map.of("NONE", EarSchool.NONE, "BAD", EarSchool.BAD,
            "NOT", EarSchool.NOT, "FULL", EarSchool.FULL);

    private final Check check = new Check();
    private final Set<String> shown = new HashSet<>();
    private Run run;

    public static void main(String[] args) throws IOException {
        new ReadmeTest().readAll(Path.of("README.md"));
    }

    private void readAll(Path file) throws IOException {
        boolean inExample = false;
        for (String line : Files.readAllLines(file)) {
            if (line.startsWith("```")) {
                inExample = line.equals("```java");
            } else if (inExample) {
                readLine(line);
            }
        }
        for (Method method : EarSchool.class.getDeclaredMethods()) {
            boolean open = Modifier.isPublic(method.getModifiers());
            check.isTrue("README.md shows " + method.getName(), !open || shown.contains(method.getName()));
        }
        check.finish();
    }

    private void readLine(String line) {
        if (line.equals("EarSchool school = new EarSchool();")) {
            run = new Run(check, "README.md");
            return;
        }
        Matcher call = CALL.matcher(line);
        check.isTrue("README.md: a call and its answer: " + line, call.matches());
        if (call.matches()) {
            shown.add(call.group(1));
            run.due(number(call.group(3)), call.group(1), numbers(call.group(2)));
        }
    }

    private static long[] numbers(String list) {
        String[] parts = list.isEmpty() ? new String[0] : list.split(", ");
        long[] numbers = new long[parts.length];
        for (int i = 0; i < parts.length; i++) {
            numbers[i] = number(parts[i]);
        }
        return numbers;
    }

    private static long number(String text) {
        if (text.equals("true") || text.equals("false")) {
            return text.equals("true") ? 1 : 0;
        }
        return CONSTANTS.containsKey(text) ? CONSTANTS.get(text) : Long.parseLong(text);
    }
}
