import java.lang.reflect.Constructor;
import java.lang.reflect.Field;
import java.lang.reflect.Member;
import java.lang.reflect.Method;
import java.lang.reflect.Modifier;
import java.util.Set;
import java.util.TreeSet;

/** The class shows the document's face, word for word, and nothing more. */
public final class FaceTest {
    private static final String I = " throws IllegalArgumentException";
    private static final String X = " throws IndexOutOfBoundsException";
    private static final Set<String> FACE = Set.of(
            "int insert(int, int, int)" + I + ", IndexOutOfBoundsException, IllegalStateException",
            "int remove(int, int)" + I + ", IndexOutOfBoundsException",
            "int restore(int, int)" + X + ", IllegalArgumentException, IllegalStateException",
            "int learn(int, int)" + I,
            "int length(int)" + I,
            "int signAt(int, int)" + I + ", IndexOutOfBoundsException",
            "int letterAt(int, int)" + I + ", IndexOutOfBoundsException",
            "boolean areAlike(int, int)" + I,
            "int signs()",
            "int authorOf(int)" + X,
            "int behind(int)" + X,
            "int clock(int)" + I,
            "int print(int)" + I + ", IllegalStateException",
            "int printed(int, int)" + X + ", IllegalArgumentException",
            "int setFloor(int)" + I,
            "int advance(int, int)" + I,
            "int sell(int, int)" + X + ", IllegalArgumentException",
            "long paid(int)" + I,
            "int left(int)" + I);

    public static void main(String[] args) {
        int modifiers = CoauthorText.class.getModifiers();
        Check.due("public", true, Modifier.isPublic(modifiers));
        Check.due("final", true, Modifier.isFinal(modifiers));
        methods();
        constantsAndConstructors();
        Check.end();
    }

    private static boolean isShown(Member member) {
        return !Modifier.isPrivate(member.getModifiers());
    }

    private static void methods() {
        Set<String> shown = new TreeSet<>();
        Set<String> publicNames = new TreeSet<>();
        for (Method method : CoauthorText.class.getDeclaredMethods()) {
            if (isShown(method)) {
                shown.add(told(method));
                publicNames.add(method.getName());
                Check.due(method.getName() + " is public and no more", true,
                        method.getModifiers() == Modifier.PUBLIC);
            }
        }
        Check.told("the methods", new TreeSet<>(FACE).toString(), shown.toString());
        for (Method method : CoauthorText.class.getDeclaredMethods()) {
            if (!isShown(method)) {
                Check.due("private " + method.getName() + " bears a public name", false,
                        publicNames.contains(method.getName()));
            }
        }
    }

    private static void constantsAndConstructors() {
        Set<String> shown = new TreeSet<>();
        for (Field field : CoauthorText.class.getDeclaredFields()) {
            if (isShown(field)) {
                shown.add(field.toString());
            }
        }
        for (Constructor<?> constructor : CoauthorText.class.getDeclaredConstructors()) {
            if (isShown(constructor)) {
                shown.add(constructor.toString());
            }
        }
        Check.told("constants and constructors",
                "[public CoauthorText(), public static final int CoauthorText.NONE]",
                shown.toString());
    }

    private static String told(Method method) {
        return method.getReturnType().getName() + " " + method.getName()
                + "(" + names(method.getParameterTypes()) + ")"
                + (method.getExceptionTypes().length == 0 ? "" : " throws ")
                + names(method.getExceptionTypes());
    }

    private static String names(Class<?>[] types) {
        StringBuilder names = new StringBuilder();
        for (Class<?> type : types) {
            names.append(names.length() == 0 ? "" : ", ").append(type.getSimpleName());
        }
        return names.toString();
    }
}
