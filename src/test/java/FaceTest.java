import java.lang.reflect.Constructor;
import java.lang.reflect.Field;
import java.lang.reflect.Method;
import java.lang.reflect.Modifier;
import java.util.Arrays;
import java.util.Set;
import java.util.TreeSet;

/** The public face: what the document lists, and nothing else that can be seen from outside (LANGUAGE.md, 1 and 5). */
public final class FaceTest {
    private static final String IAE = "IllegalArgumentException";
    private static final String ISE = "IllegalStateException";
    private static final String ALL = IAE + " " + ISE + " UnsupportedOperationException";
    private static final Set<String> FACE = new TreeSet<>(Set.of(
        "int cut(int) " + ALL, "int line(int) " + ALL, "int spot(int, int, int, int) " + ALL, "void start() " + ISE,
        "int erase(int, int) " + ALL, "int copy(int, int, int) " + ALL, "int uncopy(int, int) " + ALL,
        "int wrap(int, int) " + ALL, "int unwrap(int) " + ALL, "int join(int, int) " + ALL,
        "int sever(int, int) " + ALL, "int back() " + ISE, "int depth(int) " + IAE, "int read(int) " + IAE,
        "int token(int) IndexOutOfBoundsException", "boolean holds(boolean, int, int) " + IAE + " " + ISE,
        "int refutes(int) " + IAE + " " + ISE, "int count(int) " + IAE));

    public static void main(String[] args) {
        Class<?> face = CutSheets.class;
        Calls.due("face", "modifiers", Modifier.toString(face.getModifiers()), "public final");
        Calls.due("face", "package", face.getPackageName(), "");
        Calls.due("face", "methods", methods(face).toString(), FACE.toString());
        Constructor<?>[] made = face.getDeclaredConstructors();
        Calls.due("face", "constructors", Arrays.toString(made), "[public CutSheets()]");
        fields(face);
        for (Class<?> inside : face.getDeclaredClasses()) {
            Calls.due("face", inside.getName() + " is static",
                    Boolean.toString(Modifier.isStatic(inside.getModifiers())), "true");
            fields(inside);
            for (Method method : inside.getDeclaredMethods()) {
                Calls.due("face", method + " bears the name of one of the face",
                        Boolean.toString(names().contains(method.getName())), "false");
            }
        }
        Calls.end();
    }

    private static Set<String> methods(Class<?> face) {
        Set<String> found = new TreeSet<>();
        for (Method method : face.getDeclaredMethods()) {
            if (Modifier.isPrivate(method.getModifiers()) && !names().contains(method.getName())) {
                continue;
            }
            StringBuilder row = new StringBuilder(Modifier.isPublic(method.getModifiers()) ? "" : "not public: ");
            String types = Arrays.toString(method.getParameterTypes());
            row.append(method.getReturnType()).append(' ').append(method.getName());
            row.append('(').append(types, 1, types.length() - 1).append(')');
            for (Class<?> thrown : method.getExceptionTypes()) {
                row.append(' ').append(thrown.getSimpleName());
            }
            found.add(row.toString());
        }
        return found;
    }

    private static Set<String> names() {
        Set<String> names = new TreeSet<>();
        FACE.forEach(row -> names.add(row.replaceAll("\\(.*", "").replaceAll(".* ", "")));
        return names;
    }

    private static void fields(Class<?> owner) {
        for (Field field : owner.getDeclaredFields()) {
            int kind = field.getModifiers();
            boolean fine = Modifier.isPrivate(kind) && (!Modifier.isStatic(kind) || Modifier.isFinal(kind));
            Calls.due("face", "field " + field, fine ? "fine" : "to be seen or changed from elsewhere", "fine");
        }
    }
}
