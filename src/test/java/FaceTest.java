import java.lang.reflect.Constructor;
import java.lang.reflect.Field;
import java.lang.reflect.Method;
import java.lang.reflect.Modifier;
import java.util.Arrays;
import java.util.Set;
import java.util.TreeSet;
import java.util.stream.Collectors;

/** The public face: what the document names, and no other member that can be seen from outside. */
public final class FaceTest {
    private static final String[] METHODS = {
        "public int target(long, int)",
        "public int alias(int)",
        "public int stands(int)",
        "public boolean add(int, int, int)",
        "public boolean change(int, long, int)",
        "public int aspect(int, int, int, int, int)",
        "public int need(int, int)",
        "public int apply(int, int, int)",
        "public int clash(int)",
        "public int state(int, int, int)",
        "public long result(int, int, int) throws IllegalArgumentException, "
            + "IllegalStateException",
        "public int worked(int, int)",
        "public int done()",
        "public int maker(int, int)",
    };

    public static void main(String[] args) {
        Checks checks = new Checks("FaceTest");
        checks.due("class modifiers", AspectWalk.class.getModifiers(),
                Modifier.PUBLIC | Modifier.FINAL);
        checks.due("methods", visibleMethods().toString(),
                new TreeSet<>(Arrays.asList(METHODS)).toString());
        checks.due("fields", visibleFields().toString(), "[public static final int NONE]");
        Constructor<?>[] constructors = AspectWalk.class.getDeclaredConstructors();
        checks.due("constructors", constructors.length, 1);
        checks.due("constructor", constructors[0].toString(), "public AspectWalk()");
        checks.due("NONE", AspectWalk.NONE, -1);
        checks.due("private names that are public too", privateNamesOfPublicOnes().toString(),
                "[]");
        checks.end();
    }

    private static Set<String> visibleMethods() {
        Set<String> seen = new TreeSet<>();
        for (Method method : AspectWalk.class.getDeclaredMethods()) {
            if (!Modifier.isPrivate(method.getModifiers())) {
                seen.add(Modifier.toString(method.getModifiers()) + " " + method.getReturnType()
                        + " " + method.getName() + "(" + names(method.getParameterTypes()) + ")"
                        + thrown(method));
            }
        }
        return seen;
    }

    private static String thrown(Method method) {
        Class<?>[] types = method.getExceptionTypes();
        return types.length == 0 ? "" : " throws " + names(types);
    }

    private static String names(Class<?>[] types) {
        return Arrays.stream(types).map(Class::getSimpleName).collect(Collectors.joining(", "));
    }

    private static Set<String> visibleFields() {
        Set<String> seen = new TreeSet<>();
        for (Field field : AspectWalk.class.getDeclaredFields()) {
            if (!Modifier.isPrivate(field.getModifiers())) {
                seen.add(Modifier.toString(field.getModifiers()) + " " + field.getType() + " "
                        + field.getName());
            }
        }
        return seen;
    }

    private static Set<String> privateNamesOfPublicOnes() {
        Set<String> open = new TreeSet<>();
        Set<String> hidden = new TreeSet<>();
        for (Method method : AspectWalk.class.getDeclaredMethods()) {
            (Modifier.isPrivate(method.getModifiers()) ? hidden : open).add(method.getName());
        }
        for (Class<?> inside : AspectWalk.class.getDeclaredClasses()) {
            for (Method method : inside.getDeclaredMethods()) {
                hidden.add(method.getName());
            }
        }
        hidden.retainAll(open);
        return hidden;
    }
}
