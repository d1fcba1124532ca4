import java.lang.reflect.Constructor;
import java.lang.reflect.Field;
import java.lang.reflect.Member;
import java.lang.reflect.Method;
import java.lang.reflect.Modifier;
import java.util.Set;
import java.util.TreeSet;

/** The public face is the document's and nothing beside it (LANGUAGE.md, rules 1 and 5). */
public final class FaceTest {
    private static final Set<String> FACE = Set.of(
        "int read(int)", "int write(int,int)", "int flush()", "int tick()", "int detach()", "int crash()",
        "int lose()", "boolean hit()", "int says(int)", "int stored(int)", "int slot(int)", "int named(int)",
        "int epoch(int)", "int list(int)", "int member(int,int)", "int target()", "int free()", "int drained()");

    public static void main(String[] args) {
        int modifiers = EpochCache.class.getModifiers();
        Check.due("the class is public and final", Modifier.isPublic(modifiers) && Modifier.isFinal(modifiers), true);
        constructors();
        methods();
        fields();
        classesInside();
        Check.finish("FaceTest");
    }

    private static void constructors() {
        Constructor<?>[] all = EpochCache.class.getDeclaredConstructors();
        Check.due("constructors", all.length, 1);
        Check.due("its form: " + all[0].toGenericString(),
            all[0].toGenericString().equals("public EpochCache(int)"), true);
    }

    private static void methods() {
        Set<String> seen = new TreeSet<>();
        Set<String> publicNames = new TreeSet<>();
        for (Method method : EpochCache.class.getDeclaredMethods()) {
            if (!isPrivate(method)) {
                seen.add(form(method));
                publicNames.add(method.getName());
                Check.due("plainly public: " + method, method.getModifiers() == Modifier.PUBLIC, true);
            }
        }
        Check.due("the methods " + seen, seen.equals(new TreeSet<>(FACE)), true);
        for (Method method : EpochCache.class.getDeclaredMethods()) {
            Check.due("no private method bears a public name: " + method,
                isPrivate(method) && publicNames.contains(method.getName()), false);
        }
    }

    private static String form(Method method) {
        StringBuilder text = new StringBuilder(method.getReturnType() + " " + method.getName() + "(");
        for (int i = 0; i < method.getParameterCount(); i++) {
            text.append(i == 0 ? "" : ",").append(method.getParameterTypes()[i]);
        }
        return text.append(")").toString();
    }

    private static void fields() {
        for (Field field : EpochCache.class.getDeclaredFields()) {
            Check.due("private: " + field, isPrivate(field), true);
            boolean changing = Modifier.isStatic(field.getModifiers()) && !Modifier.isFinal(field.getModifiers());
            Check.due("no static state: " + field, changing, false);
        }
    }

    private static void classesInside() {
        for (Class<?> inside : EpochCache.class.getDeclaredClasses()) {
            int modifiers = inside.getModifiers();
            Check.due("static: " + inside, Modifier.isStatic(modifiers), true);
            Check.due("not open: " + inside, Modifier.isPublic(modifiers) || Modifier.isProtected(modifiers), false);
        }
    }

    private static boolean isPrivate(Member member) {
        return Modifier.isPrivate(member.getModifiers());
    }
}
