import java.lang.reflect.Constructor;
import java.lang.reflect.Field;
import java.lang.reflect.Method;
import java.lang.reflect.Modifier;
import java.util.Arrays;
import java.util.Set;
import java.util.TreeSet;

/** The public face of the document, no more and no less. */
public final class FaceTest {
    private static final String[] FACE = {
        "const int NONE = -1", "const int DELIVERED = 0", "const int NO_ROUTE = 1",
        "const int EXPIRED = 2", "const int UNKNOWN = 3", "const int NO_LABEL = 4",
        "new [int] []",
        "int link [int, int, int] [IllegalArgumentException]",
        "int own [int, int] [IllegalArgumentException]",
        "int serve [int, int] [IllegalArgumentException]",
        "int step [int, int] [IllegalArgumentException]",
        "int run [int] [IllegalArgumentException]",
        "int waiting [] []",
        "int lost [] []",
        "int distance [int, int] [IllegalArgumentException]",
        "int next [int, int] [IllegalArgumentException]",
        "int label [int, int] [IllegalArgumentException]",
        "int told [int, int, int] [IllegalArgumentException]",
        "int taken [int] [IllegalArgumentException]",
        "int send [int, int, int, int] [IllegalArgumentException]",
        "int hops [] []",
        "int hop [int] [NoSuchElementException]",
        "int entry [int] [NoSuchElementException]",
    };

    public static void main(String[] args) throws IllegalAccessException {
        Set<String> seen = new TreeSet<>();
        for (Field field : LabelRoads.class.getDeclaredFields()) {
            int m = field.getModifiers();
            if (!Modifier.isPrivate(m)) {
                boolean constant = Modifier.isPublic(m) && Modifier.isStatic(m) && Modifier.isFinal(m);
                seen.add((constant ? "const " : "field ") + field.getType() + " " + field.getName()
                        + " = " + (constant ? field.get(null) : "?"));
            }
        }
        for (Constructor<?> made : LabelRoads.class.getDeclaredConstructors()) {
            seen.add("new " + names(made.getParameterTypes()) + " " + names(made.getExceptionTypes()));
        }
        for (Method method : LabelRoads.class.getDeclaredMethods()) {
            int m = method.getModifiers();
            if (!Modifier.isPrivate(m) && !method.isSynthetic()) {
                seen.add((Modifier.isStatic(m) ? "static " : "") + method.getReturnType() + " "
                        + method.getName() + " " + names(method.getParameterTypes()) + " "
                        + names(method.getExceptionTypes()));
            }
        }
        Set<String> due = new TreeSet<>(Arrays.asList(FACE));
        if (!seen.equals(due)) {
            Check.fail("the face is " + seen + ", due is " + due);
        }
        int kind = LabelRoads.class.getModifiers();
        if (!Modifier.isPublic(kind) || !Modifier.isFinal(kind)) {
            Check.fail("the class is not public and final");
        }
        Check.end();
    }

    private static String names(Class<?>[] types) {
        String[] names = new String[types.length];
        for (int i = 0; i < types.length; i++) {
            names[i] = types[i].getSimpleName();
        }
        return Arrays.toString(names);
    }
}
