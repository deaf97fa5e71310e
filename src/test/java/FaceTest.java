import java.lang.reflect.Constructor;
import java.lang.reflect.Field;
import java.lang.reflect.Method;
import java.lang.reflect.Modifier;
import java.util.Arrays;
import java.util.Set;
import java.util.TreeSet;
import java.util.stream.Collectors;

/** The face: the document's members with what they throw, and no other that is not private. */
public final class FaceTest {
    private static final String N = "NoSuchElementException";
    private static final String A = "IllegalArgumentException";
    private static final String S = "IllegalStateException";

    private static final String[] FACE = {
        "int NONE",
        "AuditDraws() []",
        "void seed(long) []",
        "int thing(int, int) [" + N + ", " + S + "]",
        "int list(int) [" + A + "]",
        "int drawn(int) [" + N + "]",
        "int check(int, int, int, int) [" + N + ", " + S + "]",
        "boolean gone(int) [" + N + ", " + S + "]",
        "int share(int, int) [" + N + "]",
        "int next(int) [" + N + "]",
        "int digit(int, long) [" + N + ", " + A + "]",
        "boolean good(int, long) [" + N + ", " + A + "]",
        "int tag(int, int, int, int) [" + N + ", " + A + ", " + S + "]",
        "int first(int, int) [" + N + ", " + A + "]",
        "int seen(int, int) [" + N + ", " + A + "]",
        "int weight(int, int) [" + N + ", " + A + "]",
        "int report(int, int) [" + N + "]",
        "int room(int, int) [" + N + "]",
    };

    public static void main(String[] args) {
        Due.same("the face", new TreeSet<>(Arrays.asList(FACE)), FaceTest::visible);
        Due.same("the class is public and final", true, () -> Modifier.isPublic(AuditDraws.class.getModifiers())
            && Modifier.isFinal(AuditDraws.class.getModifiers()));
        for (Method each : AuditDraws.class.getDeclaredMethods()) {
            long bearers = Arrays.stream(AuditDraws.class.getDeclaredMethods())
                .filter(other -> other.getName().equals(each.getName())).count();
            Due.same("methods named " + each.getName(), 1L, () -> bearers);
        }
        Due.end();
    }

    private static Set<String> visible() {
        Set<String> found = new TreeSet<>();
        for (Field each : AuditDraws.class.getDeclaredFields()) {
            if (!Modifier.isPrivate(each.getModifiers())) {
                found.add(each.getType().getSimpleName() + " " + each.getName());
            }
        }
        for (Constructor<?> each : AuditDraws.class.getDeclaredConstructors()) {
            found.add("AuditDraws" + names("(", each.getParameterTypes(), ") ")
                + names("[", each.getExceptionTypes(), "]"));
        }
        for (Method each : AuditDraws.class.getDeclaredMethods()) {
            if (!Modifier.isPrivate(each.getModifiers())) {
                found.add(each.getReturnType().getSimpleName() + " " + each.getName()
                    + names("(", each.getParameterTypes(), ") ") + names("[", each.getExceptionTypes(), "]"));
            }
        }
        return found;
    }

    private static String names(String open, Class<?>[] types, String close) {
        return Arrays.stream(types).map(Class::getSimpleName).collect(Collectors.joining(", ", open, close));
    }
}
