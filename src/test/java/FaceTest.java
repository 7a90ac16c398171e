import java.lang.reflect.Constructor;
import java.lang.reflect.Field;
import java.lang.reflect.Method;
import java.lang.reflect.Modifier;
import java.util.Arrays;
import java.util.Set;
import java.util.TreeSet;
import java.util.stream.Collectors;

/** The public face is the document's, and nothing else can be seen from outside. */
final class FaceTest {
    private static final String PLACE = " throws IndexOutOfBoundsException";
    private static final Set<String> METHODS = Set.of(
            "int put(int, int, int, int, int, int)" + PLACE
                    + ", IllegalArgumentException, UnsupportedOperationException",
            "int build()",
            "int at(int)" + PLACE,
            "int rank(int, int)" + PLACE,
            "int select(int, int)" + PLACE,
            "int quantile(int, int, int)" + PLACE,
            "int between(int, int, int, int)" + PLACE,
            "int below(int, int, int)" + PLACE,
            "int above(int, int, int)" + PLACE,
            "int different(int, int)" + PLACE,
            "int frequent(int, int, int)" + PLACE,
            "int bits()",
            "int count(int)" + PLACE,
            "void clear()");

    public static void main(String[] args) {
        Class<LevelRows> face = LevelRows.class;
        Check.said("the class", "public final", Modifier.toString(face.getModifiers()));
        Check.due("NONE", -1, () -> LevelRows.NONE);
        Check.said("methods", new TreeSet<>(METHODS).toString(), methods(face).toString());
        for (Field field : face.getDeclaredFields()) {
            boolean none = field.getName().equals("NONE");
            String want = none ? "public static final" : "private";
            String got = Modifier.toString(field.getModifiers());
            Check.said("field " + field.getName(), want, none ? got : got.split(" ")[0]);
        }
        Constructor<?>[] constructors = face.getDeclaredConstructors();
        Check.said("constructors", "[public LevelRows(int)]", Arrays.toString(constructors));
        for (Class<?> inside : face.getDeclaredClasses()) {
            int modifiers = inside.getModifiers();
            boolean hidden = !Modifier.isPublic(modifiers) && !Modifier.isProtected(modifiers);
            Check.said(inside.getName() + " is hidden and static", "true",
                    Boolean.toString(hidden && Modifier.isStatic(modifiers)));
        }
        Check.end();
    }

    private static Set<String> methods(Class<?> face) {
        Set<String> seen = new TreeSet<>();
        Set<String> names = new TreeSet<>();
        for (Method method : face.getDeclaredMethods()) {
            if (!Modifier.isPrivate(method.getModifiers())) {
                seen.add(described(method));
                names.add(method.getName());
            }
        }
        for (Method method : face.getDeclaredMethods()) {
            if (Modifier.isPrivate(method.getModifiers()) && names.contains(method.getName())) {
                seen.add("a private method of the name " + method.getName());
            }
        }
        return seen;
    }

    private static String described(Method method) {
        String throwing = simpleNames(method.getExceptionTypes());
        String modifiers = Modifier.toString(method.getModifiers());
        return (modifiers.equals("public") ? "" : modifiers + " ")
                + method.getReturnType() + " " + method.getName()
                + "(" + simpleNames(method.getParameterTypes()) + ")"
                + (throwing.isEmpty() ? "" : " throws " + throwing);
    }

    private static String simpleNames(Class<?>[] types) {
        return Arrays.stream(types).map(Class::getSimpleName).collect(Collectors.joining(", "));
    }
}
