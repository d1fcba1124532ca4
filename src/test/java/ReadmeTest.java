import java.io.IOException;
import java.lang.reflect.Method;
import java.nio.file.Files;
import java.nio.file.Path;
import java.util.Set;
import java.util.TreeSet;
import java.util.regex.Matcher;
import java.util.regex.Pattern;

/** Plays the examples of README.md, and asks that they and its tables have every method of the face. */
public final class ReadmeTest {
    private static final Pattern NEW = Pattern.compile("EpochCache cache = new EpochCache\\((-?\\d+)\\);.*");
    private static final Pattern CALL = Pattern.compile("cache\\.(\\w+)\\(([^)]*)\\); +// (-?\\w+).*");

    private static final Set<String> played = new TreeSet<>();
    private static EpochCache cache;

    public static void main(String[] args) throws IOException, ReflectiveOperationException {
        String readme = Files.readString(Path.of("README.md"));
        boolean inExample = false;
        for (String line : readme.split("\n")) {
            if (line.startsWith("```")) {
                inExample = line.equals("```java");
            } else if (inExample) {
                play(line);
            }
        }
        Set<String> face = new TreeSet<>();
        for (Method method : EpochCache.class.getMethods()) {
            if (method.getDeclaringClass() == EpochCache.class) {
                face.add(method.getName());
                Check.due("a table has " + method.getName(), readme.contains("\n| `" + method.getName() + "("), true);
            }
        }
        Check.due("the examples have every method", played.toString(), face.toString());
        Check.finish("ReadmeTest");
    }

    private static void play(String line) throws ReflectiveOperationException {
        Matcher made = NEW.matcher(line);
        Matcher call = CALL.matcher(line);
        if (made.matches()) {
            cache = new EpochCache(Integer.parseInt(made.group(1)));
        } else if (call.matches()) {
            played.add(call.group(1));
            Check.due(line, answer(call.group(1), call.group(2)), call.group(3));
        } else {
            Check.due("can be played: " + line, false, true);
        }
    }

    private static String answer(String name, String arguments) throws ReflectiveOperationException {
        String[] texts = arguments.isEmpty() ? new String[0] : arguments.split(", ");
        Class<?>[] types = new Class<?>[texts.length];
        Object[] values = new Object[texts.length];
        for (int i = 0; i < texts.length; i++) {
            types[i] = int.class;
            values[i] = Integer.valueOf(texts[i]);
        }
        return String.valueOf(EpochCache.class.getMethod(name, types).invoke(cache, values));
    }
}
