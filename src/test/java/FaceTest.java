import java.lang.reflect.Constructor;
import java.lang.reflect.Field;
import java.lang.reflect.Method;
import java.lang.reflect.Modifier;
import java.util.Arrays;
import java.util.TreeSet;

/** The public face is the document's, and nothing else can be seen. */
public final class FaceTest {
    private static final String[] FACE = {
        "boolean meets(int, int, int) IndexOutOfBoundsException IllegalArgumentException",
        "int chain(int) IndexOutOfBoundsException IllegalStateException",
        "int chainAt(int, int) IndexOutOfBoundsException IllegalStateException",
        "int clear()",
        "int count(int)",
        "int crossing(int, int, int) IndexOutOfBoundsException IllegalStateException",
        "int piece(int, int) IndexOutOfBoundsException",
        "int pixel(int, int) IndexOutOfBoundsException",
        "int segment(int, int, int, int) IllegalArgumentException IllegalStateException",
        "int snap() UnsupportedOperationException"
    };

    public static void main(String[] args) {
        Class<?> face = PixelSnapper.class;
        Checks.due("public and final", face.getModifiers() & (Modifier.PUBLIC | Modifier.FINAL),
                Modifier.PUBLIC | Modifier.FINAL);
        TreeSet<String> methods = new TreeSet<>();
        for (Method method : face.getDeclaredMethods()) {
            if (!Modifier.isPrivate(method.getModifiers())) {
                methods.add(told(method));
                Checks.due("public: " + method, Modifier.isPublic(method.getModifiers()), true);
            }
        }
        TreeSet<String> want = new TreeSet<>(Arrays.asList(FACE));
        Checks.due("methods " + methods, methods.equals(want), true);
        for (Field field : face.getDeclaredFields()) {
            boolean isNone = field.getName().equals("NONE");
            Checks.due("private: " + field, Modifier.isPrivate(field.getModifiers()), !isNone);
        }
        Constructor<?>[] constructors = face.getDeclaredConstructors();
        Checks.due("constructors", constructors.length, 1);
        Checks.due("constructor's parameters", constructors[0].getParameterCount(), 0);
        Checks.due("public constructor", Modifier.isPublic(constructors[0].getModifiers()), true);
        Checks.end();
    }

    private static String told(Method method) {
        StringBuilder text = new StringBuilder(method.getReturnType().getSimpleName());
        text.append(' ').append(method.getName()).append('(');
        for (Class<?> type : method.getParameterTypes()) {
            text.append(text.charAt(text.length() - 1) == '(' ? "" : ", ").append(type.getSimpleName());
        }
        text.append(')');
        for (Class<?> type : method.getExceptionTypes()) {
            text.append(' ').append(type.getSimpleName());
        }
        return text.toString();
    }
}
