import java.lang.reflect.Field;
import java.lang.reflect.Member;
import java.lang.reflect.Method;
import java.lang.reflect.Modifier;
import java.util.ArrayList;
import java.util.List;
import java.util.TreeSet;

/** The class's face is the document's, and nothing else of it can be seen. */
public final class FaceTest {
    private static final Checks checks = new Checks();

    private FaceTest() {
    }

    public static void main(String[] args) {
        int flags = CircuitFiles.class.getModifiers();
        checks.same("public final class", flags & (Modifier.PUBLIC | Modifier.FINAL), Modifier.PUBLIC | Modifier.FINAL);
        checks.same("methods", methods().toString(), new TreeSet<>(List.of(
            "end(int) int", "fault(int) int", "feed(int, int, int, int, int) void", "form(boolean, int) int",
            "load() int throws java.lang.IllegalArgumentException", "many(int) int", "reset() void",
            "state() int", "step(int) int", "symbol(int, int, int) int", "value(int, int) int")).toString());
        checks.same("fields", visible(CircuitFiles.class.getDeclaredFields()).toString(), "[NONE]");
        checks.same("constructors", CircuitFiles.class.getDeclaredConstructors().length, 1);
        checks.same("constructors", CircuitFiles.class.getConstructors()[0].getParameterCount(), 0);
        nestedClasses();
        checks.finish();
    }

    private static List<String> visible(Field[] members) {
        List<String> names = new ArrayList<>();
        for (Member member : members) {
            if (!Modifier.isPrivate(member.getModifiers())) {
                names.add(member.getName());
            }
        }
        return names;
    }

    private static TreeSet<String> methods() {
        TreeSet<String> faces = new TreeSet<>();
        for (Method method : CircuitFiles.class.getDeclaredMethods()) {
            if (Modifier.isPrivate(method.getModifiers())) {
                continue;
            }
            StringBuilder face = new StringBuilder(Modifier.isPublic(method.getModifiers()) ? "" : "not public ");
            List<String> parameters = new ArrayList<>();
            for (Class<?> type : method.getParameterTypes()) {
                parameters.add(type.getName());
            }
            face.append(method.getName()).append('(').append(String.join(", ", parameters)).append(") ");
            face.append(method.getReturnType().getName());
            for (Class<?> type : method.getExceptionTypes()) {
                face.append(" throws ").append(type.getName());
            }
            faces.add(face.toString());
        }
        return faces;
    }

    private static void nestedClasses() {
        for (Class<?> nested : CircuitFiles.class.getDeclaredClasses()) {
            int flags = nested.getModifiers();
            checks.same(nested.getName() + " is static", flags & Modifier.STATIC, Modifier.STATIC);
            checks.same(nested.getName() + " is hidden", flags & (Modifier.PUBLIC | Modifier.PROTECTED), 0);
            for (Field field : nested.getDeclaredFields()) {
                boolean changing = Modifier.isStatic(field.getModifiers()) && !Modifier.isFinal(field.getModifiers());
                checks.same(nested.getName() + "." + field.getName() + " is no static state", changing ? 1 : 0, 0);
            }
        }
    }
}
