import java.io.IOException;
import java.lang.reflect.Constructor;
import java.lang.reflect.Field;
import java.lang.reflect.Method;
import java.lang.reflect.Modifier;
import java.nio.file.Files;
import java.nio.file.Path;
import java.util.ArrayList;
import java.util.List;
import java.util.regex.Matcher;
import java.util.regex.Pattern;
import java.util.stream.Stream;

/** What can be told of LANGUAGE.md's rules from the text of the class and its parts; FaceTest has rules 1 and 5. */
public final class LanguageTest {
    private static final Path SOURCES = Path.of("src/main/java");
    private static final int MOST_LINES = 60;
    private static final int MOST_PARAMETERS = 7;
    private static final int MOST_CLASSES = 12;
    private static final int MOST_FIELDS = 20;
    private static final String[] NOT_USED = {
        "import", "package", "protected", "throw", "throws", "try", "catch", "finally", "synchronized", "assert",
        "instanceof", "native", "volatile", "transient", "double", "float", "System", "Thread", "Random", "Object"};

    public static void main(String[] args) throws IOException {
        oneFile();
        String code = withoutComments(Files.readString(SOURCES.resolve("EpochCache.java")));
        wordsNotUsed(code);
        library(code);
        objectsByConstructors(code);
        lengths(code);
        counts();
        Check.finish("LanguageTest");
    }

    private static void oneFile() throws IOException {
        try (Stream<Path> all = Files.walk(SOURCES)) {
            Check.due("the program is one file", all.filter(Files::isRegularFile).toList().toString(),
                "[" + SOURCES.resolve("EpochCache.java") + "]");
        }
    }

    private static String withoutComments(String text) {
        return text.replaceAll("(?s)/\\*.*?\\*/", "").replaceAll("//[^\n]*", "");
    }

    /** More than the rules forbid: words that they allow within bounds, but that the class does without. */
    private static void wordsNotUsed(String code) {
        for (String word : NOT_USED) {
            boolean used = Pattern.compile("\\b" + word + "\\b").matcher(code).find();
            Check.due("rules 1 to 6 and 13, " + word, used, false);
        }
        Check.due("rule 2, a lambda", code.contains("->"), false);
        Check.due("rule 2, a method reference", code.contains("::"), false);
        Check.due("rule 5, a static initialiser block", code.contains("static {"), false);
    }

    private static void library(String code) {
        Matcher used = Pattern.compile("\\b[A-Z]\\w*\\.\\w+").matcher(code);
        while (used.find()) {
            boolean allowed = used.group().equals("Math.max") || used.group().equals("Math.min");
            Check.due("rule 4, " + used.group(), allowed, true);
        }
    }

    /** A field that is final can be given its array only by a constructor, so no call makes an object. */
    private static void objectsByConstructors(String code) {
        Matcher made = Pattern.compile("[^\n]*\\bnew\\b[^\n]*").matcher(code);
        while (made.find()) {
            Matcher field = Pattern.compile(" +(\\w+) = new [^;]*;").matcher(made.group());
            Check.due("rule 12, only a final field is given it: " + made.group(),
                field.matches() && isFinalField(field.group(1)), true);
        }
    }

    private static boolean isFinalField(String name) {
        boolean isFinal = false;
        for (Class<?> part : parts()) {
            for (Field field : part.getDeclaredFields()) {
                isFinal |= field.getName().equals(name) && Modifier.isFinal(field.getModifiers());
            }
        }
        return isFinal;
    }

    /** An empty line stands between two methods and inside none, so a stretch without one holds a whole method. */
    private static void lengths(String code) {
        for (String stretch : code.split("\n\\s*\n")) {
            Check.due("rule 11, at most " + MOST_LINES + " lines: " + stretch.strip().lines().findFirst().orElse(""),
                stretch.lines().count() <= MOST_LINES, true);
        }
    }

    private static void counts() {
        Check.due("rule 11, at most " + MOST_CLASSES + " classes", parts().size() <= MOST_CLASSES, true);
        for (Class<?> part : parts()) {
            int fields = 0;
            for (Field field : part.getDeclaredFields()) {
                fields += Modifier.isStatic(field.getModifiers()) ? 0 : 1;
            }
            Check.due("rule 11, at most " + MOST_FIELDS + " fields: " + part, fields <= MOST_FIELDS, true);
            for (Method method : part.getDeclaredMethods()) {
                Check.due("rule 11: " + method, method.getParameterCount() <= MOST_PARAMETERS, true);
            }
            for (Constructor<?> constructor : part.getDeclaredConstructors()) {
                Check.due("rule 11: " + constructor, constructor.getParameterCount() <= MOST_PARAMETERS, true);
            }
        }
    }

    private static List<Class<?>> parts() {
        List<Class<?>> parts = new ArrayList<>();
        parts.add(EpochCache.class);
        parts.addAll(List.of(EpochCache.class.getDeclaredClasses()));
        return parts;
    }
}
