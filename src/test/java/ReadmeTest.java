import java.io.IOException;
import java.lang.reflect.InvocationTargetException;
import java.lang.reflect.Method;
import java.nio.file.Files;
import java.nio.file.Path;
import java.util.regex.Matcher;
import java.util.regex.Pattern;
import java.util.stream.Stream;

/** The examples of README.md: each call answers what the comment behind it begins with. */
public final class ReadmeTest {
    private static final Pattern EXAMPLE = Pattern.compile("```java\n(.*?)```", Pattern.DOTALL);
    private static final Pattern CALL = Pattern.compile("desk\\.(\\w+)\\((.*?)\\); *(?:// (.*))?");
    private static final Pattern DUE = Pattern.compile("(throws \\w+|true|false|-?\\d+)(:.*)?");
    private static final int CALLS_AT_LEAST = 30;

    private static int calls = 0;

    public static void main(String[] args) throws IOException, IllegalAccessException {
        Due.begin("README.md");
        Matcher example = EXAMPLE.matcher(Files.readString(Path.of("README.md")));
        while (example.find()) {
            follow(example.group(1).split("\n"));
        }
        Due.holds("there are only " + calls + " calls in examples", calls >= CALLS_AT_LEAST);
        Due.end();
    }

    private static void follow(String[] lines) throws IllegalAccessException {
        Due.holds("an example begins with " + lines[0], lines[0].equals("FlowDesk desk = new FlowDesk();"));
        FlowDesk desk = new FlowDesk();
        for (int i = 1; i < lines.length; i++) {
            Matcher call = CALL.matcher(lines[i]);
            boolean reads = call.matches();
            Due.holds("this is no call: " + lines[i], reads);
            if (reads) {
                calls++;
                String got = answer(desk, call.group(1), call.group(2));
                Due.holds(lines[i] + " answered " + got, got.equals(due(call.group(3))));
            }
        }
    }

    /** A call whose comment tells no answer gives none. */
    private static String due(String comment) {
        Matcher due = DUE.matcher(comment == null ? "" : comment);
        return due.matches() ? due.group(1) : "null";
    }

    private static String answer(FlowDesk desk, String name, String written) throws IllegalAccessException {
        Method method = Stream.of(FlowDesk.class.getMethods()).filter(one -> one.getName().equals(name)).findAny().orElseThrow();
        Class<?>[] types = method.getParameterTypes();
        String[] texts = written.isEmpty() ? new String[0] : written.split(", ");
        Object[] arguments = new Object[texts.length];
        for (int i = 0; i < texts.length; i++) {
            arguments[i] = argument(types[i], texts[i]);
        }
        try {
            return String.valueOf(method.invoke(desk, arguments));
        } catch (InvocationTargetException thrown) {
            return "throws " + thrown.getCause().getClass().getSimpleName();
        }
    }

    private static Object argument(Class<?> type, String text) {
        if (type == boolean.class) {
            return Boolean.valueOf(text);
        }
        long number = Long.decode(text.replaceAll("[_L]", ""));
        return type == int.class ? (Object) (int) number : (Object) number;
    }
}
