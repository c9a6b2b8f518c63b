import java.io.IOException;
import java.lang.reflect.Method;
import java.nio.file.Files;
import java.nio.file.Path;
import java.util.Set;
import java.util.TreeSet;
import java.util.regex.Matcher;
import java.util.regex.Pattern;

/** The example in README.md answers what it says, and shows every call of the face. */
public final class ReadmeTest {
    private static final Pattern BLOCK = Pattern.compile("```java\n(.*?)```", Pattern.DOTALL);
    private static final Pattern TEXT = Pattern.compile("for \\(char c : \"([^\"]*)\"\\.toCharArray\\(\\)\\) \\{");
    private static final Pattern CALL = Pattern.compile("shire\\.(\\w+)\\(([^)]*)\\);\\s*// (-?\\d+)\\b.*");

    public static void main(String[] args) throws ReflectiveOperationException, IOException {
        Matcher block = BLOCK.matcher(Files.readString(Path.of("README.md")));
        Due.due("README.md has an example", block.find() ? 1 : 0, 1);
        Set<String> shown = run(block.group(1));
        for (Method method : NotAnOx.class.getMethods()) {
            if (method.getDeclaringClass() == NotAnOx.class) {
                Due.due("README.md shows " + method.getName(), shown.contains(method.getName()) ? 1 : 0, 1);
            }
        }
        Due.end();
    }

    private static Set<String> run(String example) throws ReflectiveOperationException {
        NotAnOx shire = new NotAnOx();
        Set<String> shown = new TreeSet<>();
        for (String line : example.lines().map(String::strip).toList()) {
            Matcher text = TEXT.matcher(line);
            Matcher call = CALL.matcher(line);
            if (text.matches()) {
                Due.writeInto(shire, text.group(1));
                shown.add("write");
            } else if (call.matches()) {
                int want = Integer.parseInt(call.group(3));
                Due.due(line, answer(shire, call.group(1), call.group(2)), want);
                shown.add(call.group(1));
            } else {
                Due.due("left out: " + line, Set.of("", "}", "shire.write(c);").contains(line)
                    || line.startsWith("NotAnOx shire = new NotAnOx();") || line.startsWith("//") ? 1 : 0, 1);
            }
        }
        return shown;
    }

    private static int answer(NotAnOx shire, String name, String numbers) throws ReflectiveOperationException {
        String[] parts = numbers.isBlank() ? new String[0] : numbers.split(",");
        Class<?>[] types = new Class<?>[parts.length];
        Object[] values = new Object[parts.length];
        for (int i = 0; i < parts.length; i++) {
            types[i] = int.class;
            values[i] = Integer.valueOf(parts[i].strip());
        }
        return (int) NotAnOx.class.getMethod(name, types).invoke(shire, values);
    }
}
