import java.lang.reflect.Constructor;
import java.lang.reflect.Field;
import java.lang.reflect.Method;
import java.lang.reflect.Modifier;
import java.util.Arrays;
import java.util.TreeSet;

/** The class has the face of the document and nothing more that can be seen from outside. */
public final class FaceTest {
    private static final String[] FACE = {
        "boolean join(int, int) throws", "int places()", "int degree(int, boolean) throws",
        "int neighbour(int, int) throws", "boolean wall(int, int, boolean) throws",
        "int pairs(boolean)", "int pair(int, boolean)", "int seen(int, int, int) throws",
        "int far(int, int) throws", "int parts(int)", "int without(int) throws",
        "boolean area(int, int) throws", "int size(int)", "boolean mark(int, int) throws",
        "int image(int, int) throws", "boolean keeps(int)", "int keeping()", "int text(int)",
        "boolean unit(int)", "int read()"};

    private FaceTest() {
    }

    public static void main(String[] args) {
        Checks checks = new Checks();
        Class<?> face = GridShapes.class;
        checks.due("modifiers", Modifier.toString(face.getModifiers()), "public final");
        TreeSet<String> found = new TreeSet<>();
        TreeSet<String> publicNames = new TreeSet<>();
        for (Method method : face.getDeclaredMethods()) {
            if (!Modifier.isPrivate(method.getModifiers())) {
                checks.due(method + " public", Modifier.toString(method.getModifiers()), "public");
                found.add(told(method));
                publicNames.add(method.getName());
            }
        }
        checks.due("methods", found.toString(), new TreeSet<>(Arrays.asList(FACE)).toString());
        privateNames(checks, face, publicNames);
        Constructor<?>[] constructors = face.getDeclaredConstructors();
        checks.due("constructors", constructors.length, 1);
        checks.due("constructor", constructors[0].toString(), "public GridShapes(int,int,int)");
        for (Field field : face.getDeclaredFields()) {
            checks.due(field + " private", Modifier.isPrivate(field.getModifiers()), true);
            checks.due(field + " final", Modifier.isFinal(field.getModifiers()), true);
        }
        for (Class<?> inside : face.getDeclaredClasses()) {
            checks.due(inside + " static", Modifier.isStatic(inside.getModifiers()), true);
            checks.due(inside + " public", Modifier.isPublic(inside.getModifiers()), false);
            privateNames(checks, inside, publicNames);
        }
        checks.finish();
    }

    private static String told(Method method) {
        StringBuilder s = new StringBuilder();
        s.append(method.getReturnType().getSimpleName()).append(' ').append(method.getName());
        s.append('(');
        Class<?>[] types = method.getParameterTypes();
        for (int i = 0; i < types.length; i++) {
            s.append(i > 0 ? ", " : "").append(types[i].getSimpleName());
        }
        s.append(')');
        Class<?>[] thrown = method.getExceptionTypes();
        if (thrown.length == 1 && thrown[0] == ArrayIndexOutOfBoundsException.class) {
            s.append(" throws");
        }
        return s.toString();
    }

    private static void privateNames(Checks checks, Class<?> of, TreeSet<String> publicNames) {
        for (Method method : of.getDeclaredMethods()) {
            if (of != GridShapes.class || Modifier.isPrivate(method.getModifiers())) {
                checks.due(method + " bears a public name",
                        publicNames.contains(method.getName()), false);
            }
        }
    }
}
