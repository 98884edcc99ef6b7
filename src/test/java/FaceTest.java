import java.lang.reflect.Constructor;
import java.lang.reflect.Field;
import java.lang.reflect.Method;
import java.lang.reflect.Modifier;
import java.util.Arrays;
import java.util.Set;
import java.util.TreeSet;

/** The document's face, and no other member that can be seen from outside. */
public final class FaceTest {
    private static final String[] FACE = {
        "int context() throws IllegalStateException",
        "int relate(int, int, int) throws IndexOutOfBoundsException, IllegalStateException",
        "int ring(int) throws IndexOutOfBoundsException",
        "boolean undo(int) throws IndexOutOfBoundsException",
        "int order(int, int) throws IndexOutOfBoundsException",
        "int links()",
        "int link(int, int) throws IndexOutOfBoundsException",
        "int equal(int) throws IndexOutOfBoundsException",
        "boolean contemporary(int, int) throws IndexOutOfBoundsException",
        "int longest(int) throws IndexOutOfBoundsException",
        "int group() throws IllegalStateException",
        "boolean into(int, int) throws IndexOutOfBoundsException",
        "int groupRing(int) throws IndexOutOfBoundsException",
        "int groupOf(int) throws IndexOutOfBoundsException",
        "int version() throws IllegalStateException",
        "int differs(int, int, int) throws IndexOutOfBoundsException",
        "int count(int) throws IndexOutOfBoundsException",
    };

    private FaceTest() {
    }

    public static void main(String[] args) {
        Class<?> face = RelationOrder.class;
        Expect.same("public final class", Modifier.PUBLIC | Modifier.FINAL, face.getModifiers());
        Expect.same("NONE", -1, RelationOrder.NONE);
        checkMethods(face);
        checkFields(face);
        checkConstructors(face);
        for (Class<?> inside : face.getDeclaredClasses()) {
            int open = Modifier.PUBLIC | Modifier.PROTECTED;
            Expect.same(inside + " is hidden", 0, inside.getModifiers() & open);
            Expect.yes(inside + " is static", Modifier.isStatic(inside.getModifiers()));
        }
        Expect.end();
    }

    private static void checkMethods(Class<?> face) {
        Set<String> due = new TreeSet<>(Arrays.asList(FACE));
        Set<String> names = new TreeSet<>();
        for (Method m : face.getDeclaredMethods()) {
            if (Modifier.isPublic(m.getModifiers())) {
                Expect.yes("the document has " + told(m), due.remove(told(m)));
                Expect.same(m + " is public alone", Modifier.PUBLIC, m.getModifiers());
                names.add(m.getName());
            }
        }
        Expect.yes("all methods of the document: left are " + due, due.isEmpty());
        for (Method m : face.getDeclaredMethods()) {
            if (!Modifier.isPublic(m.getModifiers())) {
                Expect.yes(m + " is private", Modifier.isPrivate(m.getModifiers()));
                Expect.no(m + " has a public one's name", names.contains(m.getName()));
            }
        }
    }

    private static void checkFields(Class<?> face) {
        for (Field f : face.getDeclaredFields()) {
            boolean isNone = f.getName().equals("NONE");
            Expect.yes(f + " is as visible as due",
                    isNone ? Modifier.isPublic(f.getModifiers()) : Modifier.isPrivate(f.getModifiers()));
            Expect.yes(f + " holds no static state",
                    !Modifier.isStatic(f.getModifiers()) || Modifier.isFinal(f.getModifiers()));
        }
    }

    private static void checkConstructors(Class<?> face) {
        Constructor<?>[] all = face.getDeclaredConstructors();
        Expect.same("constructors", 1, all.length);
        Expect.same("constructor's modifiers", Modifier.PUBLIC, all[0].getModifiers());
        Expect.same("constructor's parameters", 0, all[0].getParameterCount());
    }

    private static String told(Method m) {
        StringBuilder text = new StringBuilder();
        text.append(m.getReturnType().getSimpleName()).append(' ').append(m.getName());
        text.append('(').append(list(m.getParameterTypes())).append(')');
        String thrown = list(m.getExceptionTypes());
        return thrown.isEmpty() ? text.toString() : text.append(" throws ").append(thrown).toString();
    }

    private static String list(Class<?>[] types) {
        StringBuilder text = new StringBuilder();
        for (Class<?> type : types) {
            text.append(text.length() == 0 ? "" : ", ").append(type.getSimpleName());
        }
        return text.toString();
    }
}
