import java.io.IOException;
import java.lang.reflect.Method;
import java.lang.reflect.Modifier;
import java.nio.file.Files;
import java.nio.file.Path;
import java.util.regex.Matcher;
import java.util.regex.Pattern;

/** README.md names every call, and its example answers what it says. */
public final class ReadmeTest {
    private static final Path README = Path.of("README.md");
    private static final String START = "```java\n", END = "```\n";
    private static final Pattern CALL = Pattern.compile("x\\.(\\w+)\\(([^)]*)\\); +// (-?\\d+): .+");

    public static void main(String[] args) throws IOException, ReflectiveOperationException {
        String text = Files.readString(README);
        everyCallIsNamed(text);
        int from = text.indexOf(START);
        int to = from < 0 ? -1 : text.indexOf(END, from + START.length());
        Check.holds("there is an example", to >= 0);
        if (to >= 0) {
            exampleIsSo(text.substring(from + START.length(), to));
        }
        Check.end();
    }

    private static void everyCallIsNamed(String text) {
        for (Method method : HoopStairs.class.getDeclaredMethods()) {
            if (Modifier.isPublic(method.getModifiers())) {
                Check.holds(method.getName() + " is named", text.contains("`" + method.getName() + "("));
            }
        }
    }

    private static void exampleIsSo(String example) throws ReflectiveOperationException {
        HoopStairs x = null;
        for (String line : example.split("\n")) {
            Matcher call = CALL.matcher(line);
            if (line.equals("HoopStairs x = new HoopStairs();")) {
                x = new HoopStairs();
            } else if (x != null && call.matches()) {
                Check.due(line, answerOf(x, call.group(1), call.group(2)), Long.parseLong(call.group(3)));
            } else {
                Check.holds("'" + line + "' is a call with its answer", line.isEmpty());
            }
        }
    }

    private static long answerOf(HoopStairs x, String name, String inside) throws ReflectiveOperationException {
        String[] words = inside.isEmpty() ? new String[0] : inside.split(", ");
        for (Method method : HoopStairs.class.getDeclaredMethods()) {
            Class<?>[] types = method.getParameterTypes();
            if (method.getName().equals(name) && types.length == words.length) {
                Object[] values = new Object[words.length];
                for (int i = 0; i < words.length; i++) {
                    long value = valueOf(words[i]);
                    values[i] = types[i] == long.class ? (Object) value : (Object) (int) value;
                }
                return (int) method.invoke(x, values);
            }
        }
        throw new NoSuchMethodException(name);
    }

    private static long valueOf(String word) throws ReflectiveOperationException {
        String prefix = "HoopStairs.";
        if (word.startsWith(prefix)) {
            return HoopStairs.class.getField(word.substring(prefix.length())).getInt(null);
        }
        return Long.decode(word.endsWith("L") ? word.substring(0, word.length() - 1) : word);
    }
}
