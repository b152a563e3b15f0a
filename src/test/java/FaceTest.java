import java.lang.reflect.Constructor;
import java.lang.reflect.Field;
import java.lang.reflect.Method;
import java.lang.reflect.Modifier;
import java.util.Arrays;
import java.util.List;
import java.util.TreeSet;

/** The public face of the document, and no other member that is not private. */
final class FaceTest {
    private static final List<String> FACE = List.of(
            "boolean free(int)", "boolean stack(int)", "int allocate(int)", "int cleared(int, int)", "int end()",
            "int get(int)", "int put(int, int)", "int resize(int, int)");

    public static void main(String[] args) {
        Script script = new Script();
        Class<?> type = HeapRow.class;
        script.due("public final", type.getModifiers(), Modifier.PUBLIC | Modifier.FINAL);

        Constructor<?>[] constructors = type.getDeclaredConstructors();
        script.due("constructors", constructors.length, 1);
        script.due("the constructor's parameters", constructors[0].getParameterCount(), 0);
        script.due("the constructor is public", constructors[0].getModifiers(), Modifier.PUBLIC);

        TreeSet<String> face = new TreeSet<>();
        for (Method method : type.getDeclaredMethods()) {
            if (!Modifier.isPrivate(method.getModifiers())) {
                script.due(method + " is public", method.getModifiers(), Modifier.PUBLIC);
                face.add(signature(method));
            }
        }
        if (!face.equals(new TreeSet<>(FACE))) {
            script.tell("the face is " + face);
        }
        for (Field field : type.getDeclaredFields()) {
            script.due(field + " is private", field.getModifiers() & Modifier.PRIVATE, Modifier.PRIVATE);
        }
        script.finish();
    }

    private static String signature(Method method) {
        String parameters = Arrays.toString(method.getParameterTypes());
        return method.getReturnType() + " " + method.getName()
                + "(" + parameters.substring(1, parameters.length() - 1) + ")";
    }
}
