import java.lang.reflect.Constructor;
import java.lang.reflect.Field;
import java.lang.reflect.Method;
import java.lang.reflect.Modifier;
import java.util.Arrays;
import java.util.TreeSet;

/** The public face is the document's, and FerroDesk has no other member that is not private. */
public final class FaceTest {
    private static final String[] FACE = {
        "int addBoard(int, int) throws IllegalArgumentException, IllegalStateException",
        "int setSun(int) throws IllegalArgumentException",
        "int charge(int) throws IndexOutOfBoundsException",
        "int cell(int, int, int) throws IndexOutOfBoundsException",
        "int wear(int, int, int) throws IndexOutOfBoundsException",
        "int shows(int) throws IndexOutOfBoundsException",
        "int shift(int) throws IndexOutOfBoundsException",
        "boolean sleeps(int) throws IndexOutOfBoundsException",
        "int post(int, int, int, int) throws IllegalArgumentException, IllegalStateException",
        "boolean queue(int, int) throws IndexOutOfBoundsException, IllegalArgumentException, "
            + "UnsupportedOperationException",
        "int takeBack(int, int) throws IndexOutOfBoundsException, IllegalArgumentException, "
            + "UnsupportedOperationException",
        "int mend(int, int) throws IndexOutOfBoundsException, IllegalArgumentException, "
            + "UnsupportedOperationException, IllegalStateException",
        "int deny(int, int, int) throws IllegalArgumentException, IllegalStateException",
        "int queued(int) throws IllegalArgumentException",
        "int queuedAt(int, int) throws IllegalArgumentException, IndexOutOfBoundsException",
        "boolean isDue(int) throws IndexOutOfBoundsException",
        "int pass(int, int) throws IndexOutOfBoundsException, IllegalArgumentException",
        "int readers(int, int) throws IndexOutOfBoundsException, IllegalArgumentException",
        "int readIn(int, int) throws IndexOutOfBoundsException",
        "int suspects(int, int) throws IllegalArgumentException",
        "int suspectAt(int, int, int) throws IllegalArgumentException, IndexOutOfBoundsException",
        "int go(int) throws IllegalArgumentException, IllegalStateException",
        "int hour()",
        "int boards()",
        "int notices()",
        "int cellAnew(int, int, int) throws IndexOutOfBoundsException",
        "long changes()",
        "int worst(int) throws IndexOutOfBoundsException",
        "long checksum()",
        "float shownShare() throws ArithmeticException",
        "double meanWear() throws ArithmeticException",
        "boolean isSound()",
    };

    public static void main(String[] args) {
        Class<FerroDesk> desk = FerroDesk.class;
        Check.same("public and final", Modifier.toString(desk.getModifiers()), "public final");
        Check.same("no package", desk.getPackageName(), "");
        TreeSet<String> found = new TreeSet<>();
        TreeSet<String> hidden = new TreeSet<>();
        for (Method method : desk.getDeclaredMethods()) {
            if (Modifier.isPrivate(method.getModifiers())) {
                hidden.add(method.getName());
            } else {
                Check.same("public alone", Modifier.toString(method.getModifiers()), "public");
                found.add(told(method));
            }
        }
        Check.same("the methods", found, new TreeSet<>(Arrays.asList(FACE)));
        for (String row : FACE) {
            String name = row.substring(row.indexOf(' ') + 1, row.indexOf('('));
            Check.same("a private method of the name " + name, hidden.contains(name), false);
        }
        for (Field field : desk.getDeclaredFields()) {
            int kind = field.getModifiers();
            Check.same("private: " + field, Modifier.isPrivate(kind), true);
            Check.same("a constant: " + field, !Modifier.isStatic(kind) || Modifier.isFinal(kind),
                    true);
        }
        Constructor<?>[] constructors = desk.getDeclaredConstructors();
        Check.same("one constructor", constructors.length, 1);
        Check.same("it is public, without arguments", constructors[0].toString(),
                "public FerroDesk()");
        for (Class<?> inside : desk.getDeclaredClasses()) {
            int kind = inside.getModifiers();
            Check.same("neither public nor protected: " + inside,
                    Modifier.isPublic(kind) || Modifier.isProtected(kind), false);
            Check.same("static: " + inside, Modifier.isStatic(kind), true);
        }
        Check.finish("FaceTest");
    }

    private static String told(Method method) {
        StringBuilder text = new StringBuilder();
        text.append(method.getReturnType().getSimpleName()).append(' ').append(method.getName());
        text.append('(').append(names(method.getParameterTypes())).append(')');
        Class<?>[] thrown = method.getExceptionTypes();
        return thrown.length == 0 ? text.toString()
                : text.append(" throws ").append(names(thrown)).toString();
    }

    private static String names(Class<?>[] kinds) {
        StringBuilder text = new StringBuilder();
        for (Class<?> kind : kinds) {
            text.append(text.length() == 0 ? "" : ", ").append(kind.getSimpleName());
        }
        return text.toString();
    }
}
