import java.lang.reflect.Constructor;
import java.lang.reflect.Field;
import java.lang.reflect.Method;
import java.lang.reflect.Modifier;
import java.util.ArrayList;
import java.util.Arrays;
import java.util.List;

/** The class has the document's constants, constructor and methods, and no others that can be seen. */
public final class FaceTest {
    private static final List<String> FACE = List.of(
            "int NONE = -1", "int UNREADY = 1", "int ASTRAY = 2", "int TAKEN = 3", "int UNSAFE = 4", "int BUSY = 5",
            "ClusterTool()",
            "int visit(int, int, int, int)", "int load(int)", "int may(int, int)", "int move(int, int)",
            "int next()", "int go()", "int tick(int)", "boolean down(int, boolean)", "boolean safe()",
            "int in(int)", "int place(int)", "int stage(int)", "int visited(int, int)",
            "int when(int, int, boolean)", "int left(int)", "int stay(int)", "int count(int)");

    private FaceTest() {
    }

    public static void main(String[] args) throws IllegalAccessException {
        Due due = new Due("FaceTest: ");
        Class<?> face = ClusterTool.class;
        due.same("modifiers of the class", face.getModifiers(), Modifier.PUBLIC | Modifier.FINAL);
        List<String> seen = visibleMembers(face);
        for (String member : FACE) {
            due.same(member + " is there", seen.contains(member), true);
        }
        for (String member : seen) {
            due.same(member + " is in the document", FACE.contains(member), true);
        }
        for (Method method : face.getDeclaredMethods()) {
            boolean hidden = Modifier.isPrivate(method.getModifiers());
            due.same("private " + method.getName() + "() bears a public name",
                    hidden && hasPublicName(method.getName()), false);
        }
        for (Class<?> within : face.getDeclaredClasses()) {
            due.same(within.getName() + " is static", Modifier.isStatic(within.getModifiers()), true);
            due.same(within.getName() + " is public", Modifier.isPublic(within.getModifiers()), false);
        }
        due.end();
    }

    private static List<String> visibleMembers(Class<?> face) throws IllegalAccessException {
        List<String> seen = new ArrayList<>();
        for (Field field : face.getDeclaredFields()) {
            if (Modifier.isPrivate(field.getModifiers())) {
                continue;
            }
            boolean constant = field.getModifiers() == (Modifier.PUBLIC | Modifier.STATIC | Modifier.FINAL);
            seen.add(field.getType() + " " + field.getName() + " = " + (constant ? field.get(null) : "?"));
        }
        for (Constructor<?> made : face.getDeclaredConstructors()) {
            seen.add("ClusterTool" + list(made.getParameterTypes()));
        }
        for (Method method : face.getDeclaredMethods()) {
            if (!Modifier.isPrivate(method.getModifiers())) {
                String how = method.getModifiers() == Modifier.PUBLIC ? "" : Modifier.toString(method.getModifiers()) + " ";
                seen.add(how + method.getReturnType() + " " + method.getName() + list(method.getParameterTypes()));
            }
        }
        return seen;
    }

    private static boolean hasPublicName(String name) {
        return FACE.stream().anyMatch(member -> member.contains(" " + name + "("));
    }

    private static String list(Class<?>[] types) {
        return Arrays.toString(types).replace('[', '(').replace(']', ')');
    }
}
