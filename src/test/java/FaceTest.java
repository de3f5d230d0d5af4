import java.lang.reflect.Constructor;
import java.lang.reflect.Field;
import java.lang.reflect.Method;
import java.lang.reflect.Modifier;
import java.util.Arrays;
import java.util.Set;
import java.util.TreeSet;

/** The public face of the document, and rule 1 of LANGUAGE.md: that there is no other. */
public final class FaceTest {
    private static final Set<String> FACE = new TreeSet<>(Set.of(
        "public MonitorYard()",
        "public int MonitorYard.make(int,int) throws "
            + "java.lang.IllegalArgumentException,java.lang.IllegalStateException",
        "public int MonitorYard.act(int,int,int,int,int) throws java.lang.IllegalArgumentException,"
            + "java.lang.IllegalStateException,java.lang.UnsupportedOperationException",
        "public int MonitorYard.tick(int) throws java.lang.IllegalArgumentException",
        "public void MonitorYard.interrupt(int) throws java.lang.IllegalArgumentException",
        "public int MonitorYard.told(int,int) throws java.lang.IllegalArgumentException",
        "public int MonitorYard.object(int,int) throws java.lang.IllegalArgumentException",
        "public int MonitorYard.waiter(int,int) throws "
            + "java.lang.IllegalArgumentException,java.util.NoSuchElementException",
        "public int MonitorYard.stuck()",
        "public int MonitorYard.count(int)"));

    private static int wrong;

    public static void main(String[] args) {
        check(Modifier.isFinal(MonitorYard.class.getModifiers()), "the class is final");
        check(seenFromOutside().equals(FACE), "the face is the document's: " + seenFromOutside());
        for (Field field : MonitorYard.class.getDeclaredFields()) {
            check(Modifier.isPrivate(field.getModifiers()), field + " is private");
            check(!Modifier.isStatic(field.getModifiers()) || Modifier.isFinal(field.getModifiers()),
                field + " is final");
        }
        Class<?>[] inside = MonitorYard.class.getDeclaredClasses();
        check(inside.length < 12, "at most some twelve classes");
        for (Class<?> nested : inside) {
            check(!Modifier.isPublic(nested.getModifiers()) && !Modifier.isProtected(nested.getModifiers()),
                nested + " is private or package-visible");
            check(Modifier.isStatic(nested.getModifiers()), nested + " is static");
        }
        System.out.println("Face: " + wrong + " wrong");
        System.exit(wrong == 0 ? 0 : 1);
    }

    private static Set<String> seenFromOutside() {
        Set<String> seen = new TreeSet<>();
        for (Constructor<?> made : MonitorYard.class.getDeclaredConstructors()) {
            seen.add(made.toString());
        }
        Arrays.stream(MonitorYard.class.getDeclaredMethods())
            .filter(method -> !Modifier.isPrivate(method.getModifiers()))
            .map(Method::toString)
            .forEach(seen::add);
        return seen;
    }

    private static void check(boolean holds, String what) {
        if (!holds) {
            wrong++;
            System.out.println("not so: " + what);
        }
    }
}
