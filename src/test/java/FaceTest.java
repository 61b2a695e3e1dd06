import java.lang.reflect.Constructor;
import java.lang.reflect.Field;
import java.lang.reflect.Method;
import java.lang.reflect.Modifier;
import java.util.ArrayList;
import java.util.Collections;
import java.util.List;

/** The public face: just the constant, the constructor and the methods of the document. */
public final class FaceTest {
    private static final String INDEX = "IndexOutOfBoundsException";
    private static final String ARGUMENT = "IllegalArgumentException";
    private static final String STATE = "IllegalStateException";
    private static final String UNSUPPORTED = "UnsupportedOperationException";

    private FaceTest() {
    }

    public static void main(String[] args) {
        int kind = Modifier.PUBLIC | Modifier.FINAL;
        Check.due("public and final", kind, BranchedPast.class.getModifiers() & kind);
        Check.due("methods", wantedMethods(), visibleMethods());
        Check.due("fields", List.of("public static final int NONE"), visibleFields());
        Constructor<?>[] constructors = BranchedPast.class.getDeclaredConstructors();
        Check.due("constructors", 1, constructors.length);
        Check.due("constructor", "public BranchedPast()", constructors[0].toString());
        for (Class<?> inside : BranchedPast.class.getDeclaredClasses()) {
            Check.due(inside + " is static", true, Modifier.isStatic(inside.getModifiers()));
            Check.due(inside + " is public", false, Modifier.isPublic(inside.getModifiers()));
        }
        Check.due("private methods with a public name", List.of(), publicNamesOfPrivateMethods());
        Check.due("NONE", -1, BranchedPast.NONE);
        Check.end("FaceTest");
    }

    private static List<String> wantedMethods() {
        List<String> wanted = new ArrayList<>(List.of(
                method("int branch", 2, INDEX, ARGUMENT, STATE),
                method("void close", 1, INDEX, STATE),
                method("int write", 5, INDEX, ARGUMENT, STATE, UNSUPPORTED),
                method("int read", 5, INDEX, ARGUMENT),
                method("int history", 4, INDEX),
                method("int differs", 3, INDEX, STATE),
                method("int meeting", 2, INDEX),
                method("int join", 2, INDEX, ARGUMENT, STATE, UNSUPPORTED)));
        wanted.addAll(List.of(
                method("int trim", 1, ARGUMENT),
                method("int reach", 3, INDEX, ARGUMENT),
                method("int type", 1, ARGUMENT, STATE),
                method("void erase", 0),
                method("int find", 2, INDEX, ARGUMENT),
                method("int state", 1, ARGUMENT),
                method("int about", 2, INDEX, ARGUMENT)));
        Collections.sort(wanted);
        return wanted;
    }

    private static String method(String name, int parameters, String... thrown) {
        return "public " + name + " " + "int ".repeat(parameters) + List.of(thrown);
    }

    private static List<String> visibleMethods() {
        List<String> seen = new ArrayList<>();
        for (Method method : BranchedPast.class.getDeclaredMethods()) {
            if (!Modifier.isPrivate(method.getModifiers())) {
                seen.add(described(method));
            }
        }
        Collections.sort(seen);
        return seen;
    }

    private static List<String> publicNamesOfPrivateMethods() {
        List<String> names = new ArrayList<>();
        for (Method method : BranchedPast.class.getMethods()) {
            names.add(method.getName());
        }
        List<String> seen = new ArrayList<>();
        for (Method method : BranchedPast.class.getDeclaredMethods()) {
            if (Modifier.isPrivate(method.getModifiers()) && names.contains(method.getName())) {
                seen.add(method.getName());
            }
        }
        return seen;
    }

    private static String described(Method method) {
        StringBuilder text = new StringBuilder(Modifier.toString(method.getModifiers()));
        text.append(' ').append(method.getReturnType()).append(' ').append(method.getName());
        text.append(' ');
        for (Class<?> parameter : method.getParameterTypes()) {
            text.append(parameter).append(' ');
        }
        List<String> thrown = new ArrayList<>();
        for (Class<?> exception : method.getExceptionTypes()) {
            thrown.add(exception.getSimpleName());
        }
        return text.append(thrown).toString();
    }

    private static List<String> visibleFields() {
        List<String> seen = new ArrayList<>();
        for (Field field : BranchedPast.class.getDeclaredFields()) {
            if (!Modifier.isPrivate(field.getModifiers())) {
                seen.add(Modifier.toString(field.getModifiers()) + " " + field.getType() + " "
                        + field.getName());
            }
        }
        return seen;
    }
}
