import java.io.IOException;
import java.lang.reflect.Method;
import java.lang.reflect.Modifier;
import java.nio.file.Files;
import java.nio.file.Path;
import java.util.Set;
import java.util.TreeSet;
import java.util.regex.Matcher;
import java.util.regex.Pattern;

/** The calls that README.md shows, made in its order on one object, answer as it says there, and no call is left out. */
public final class ReadmeTest {
    private static final Pattern CALL = Pattern.compile("town\\.(\\w+)\\(([^)]*)\\);\\s+// (true|false|-?\\d+)(: .*)?");

    private static int[] numbers(String listed) {
        if (listed.isEmpty()) {
            return new int[0];
        }
        String[] parts = listed.split(", ");
        int[] numbers = new int[parts.length];
        for (int i = 0; i < parts.length; i++) {
            numbers[i] = (int) (long) Long.decode(parts[i]);
        }
        return numbers;
    }

    private static Method method(String name) {
        for (Method method : OnePane.class.getDeclaredMethods()) {
            if (Modifier.isPublic(method.getModifiers()) && method.getName().equals(name)) {
                return method;
            }
        }
        return null;
    }

    private static String answer(OnePane town, String name, int[] numbers) throws ReflectiveOperationException {
        Method method = method(name);
        if (method == null || method.getParameterCount() != numbers.length) {
            return "no such call";
        }
        Object[] arguments = new Object[numbers.length];
        for (int i = 0; i < numbers.length; i++) {
            arguments[i] = numbers[i];
        }
        return String.valueOf(method.invoke(town, arguments));
    }

    private static Set<String> missing() {
        Set<String> names = new TreeSet<>();
        for (Method method : OnePane.class.getDeclaredMethods()) {
            if (Modifier.isPublic(method.getModifiers())) {
                names.add(method.getName());
            }
        }
        return names;
    }

    private static void wrong(String line, String why) {
        Desk.wrong++;
        System.out.println("README: " + line + " " + why);
    }

    private static void run(String block) throws ReflectiveOperationException {
        OnePane town = new OnePane();
        Set<String> missing = missing();
        for (String line : block.split("\n")) {
            Matcher call = CALL.matcher(line);
            if (call.matches()) {
                String answer = answer(town, call.group(1), numbers(call.group(2)));
                missing.remove(call.group(1));
                if (!answer.equals(call.group(3))) {
                    wrong(line, "answered " + answer);
                }
            } else if (!line.isEmpty() && !line.startsWith("// ") && !line.equals("OnePane town = new OnePane();")) {
                wrong(line, "is no call with its answer");
            }
        }
        if (!missing.isEmpty()) {
            wrong(missing.toString(), "are not shown");
        }
    }

    public static void main(String[] args) throws IOException, ReflectiveOperationException {
        Matcher block = Pattern.compile("(?s)```java\n(OnePane town = .*?)```").matcher(Files.readString(Path.of("README.md")));
        if (block.find()) {
            run(block.group(1));
        } else {
            wrong("", "shows no calls");
        }
        Desk.close("README");
    }
}
