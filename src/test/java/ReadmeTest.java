import java.io.IOException;
import java.lang.reflect.Field;
import java.lang.reflect.Method;
import java.lang.reflect.Modifier;
import java.nio.file.Files;
import java.nio.file.Path;
import java.util.regex.Matcher;
import java.util.regex.Pattern;

/** That README.md tells what is so: its example's answers, and each call and constant there is. */
public final class ReadmeTest extends Bench {
    private static final Pattern EXAMPLE = Pattern.compile("(?s)```java\n(.*?)```");
    private static final Pattern CALL = Pattern.compile("x\\.(\\w+)\\(([^)]*)\\);\\s*// (-?\\d+)\\b.*");
    private static final String FIRST_LINE = "WordHides x = new WordHides();";

    public static void main(String[] args) throws IOException, ReflectiveOperationException {
        String readme = Files.readString(Path.of("README.md"));
        example(readme);
        names(readme);
        end(new String[0]);
    }

    private static void example(String readme) throws ReflectiveOperationException {
        Matcher found = EXAMPLE.matcher(readme);
        due("README.md has an example", found.find() ? 1 : 0, 1);
        String[] lines = found.group(1).split("\n");
        same("its first line", lines[0], FIRST_LINE);
        WordHides x = new WordHides();
        for (int i = 1; i < lines.length; i++) {
            Matcher call = CALL.matcher(lines[i]);
            if (call.matches()) {
                due(lines[i], answer(x, call.group(1), call.group(2)), Integer.parseInt(call.group(3)));
            } else {
                same("a line of the example", lines[i], "a call and its answer");
            }
        }
    }

    private static int answer(WordHides x, String name, String numbers) throws ReflectiveOperationException {
        String[] parts = numbers.isEmpty() ? new String[0] : numbers.split(", ");
        Class<?>[] types = new Class<?>[parts.length];
        Object[] values = new Object[parts.length];
        for (int i = 0; i < parts.length; i++) {
            types[i] = int.class;
            values[i] = parts[i].startsWith("'") ? parts[i].charAt(1) : Integer.parseInt(parts[i]);
        }
        return (Integer) WordHides.class.getMethod(name, types).invoke(x, values);
    }

    private static void names(String readme) throws ReflectiveOperationException {
        for (Method method : WordHides.class.getDeclaredMethods()) {
            if (Modifier.isPublic(method.getModifiers())) {
                due("README.md tells of " + method.getName(), readme.contains("`" + method.getName() + "(") ? 1 : 0, 1);
            }
        }
        for (Field field : WordHides.class.getDeclaredFields()) {
            if (Modifier.isPublic(field.getModifiers())) {
                String told = "`" + field.getName() + "` " + field.getInt(null);
                due("README.md tells of " + told, readme.contains(told) ? 1 : 0, 1);
            }
        }
    }
}
