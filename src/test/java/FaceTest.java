import java.lang.reflect.Constructor;
import java.lang.reflect.Field;
import java.lang.reflect.Method;
import java.lang.reflect.Modifier;
import java.util.Arrays;
import java.util.Set;
import java.util.TreeSet;

/** The public face: just the signatures of the document, and nothing else outside of the class. */
public final class FaceTest {
    private static final String[] FACE = {
        "int create(int, int) IllegalArgumentException IllegalStateException",
        "int columnCount()",
        "int kind(int) IndexOutOfBoundsException",
        "int length(int) IndexOutOfBoundsException",
        "boolean readBoolean(int, int) IndexOutOfBoundsException",
        "int readByte(int, int) IndexOutOfBoundsException",
        "int readChar(int, int) IndexOutOfBoundsException",
        "int readShort(int, int) IndexOutOfBoundsException",
        "int readInt(int, int) IndexOutOfBoundsException",
        "long readLong(int, int) IndexOutOfBoundsException",
        "float readFloat(int, int) IndexOutOfBoundsException",
        "double readDouble(int, int) IndexOutOfBoundsException",
        "double readAny(int, int) IndexOutOfBoundsException",
        "int writeBoolean(int, int, boolean) IndexOutOfBoundsException",
        "int writeByte(int, int, int) IndexOutOfBoundsException",
        "int writeChar(int, int, int) IndexOutOfBoundsException",
        "int writeShort(int, int, int) IndexOutOfBoundsException",
        "int writeInt(int, int, int) IndexOutOfBoundsException",
        "int writeLong(int, int, long) IndexOutOfBoundsException",
        "int writeFloat(int, int, float) IndexOutOfBoundsException",
        "int writeDouble(int, int, double) IndexOutOfBoundsException",
        "int writeAny(int, int, int, int) IndexOutOfBoundsException IllegalArgumentException",
        "int copy(int, int, int, int, int) IndexOutOfBoundsException",
        "double total(int) IndexOutOfBoundsException",
        "int widened(int, int) IndexOutOfBoundsException IllegalArgumentException IllegalStateException",
        "int code()",
        "int count(int) IndexOutOfBoundsException",
        "boolean hasCells(int) IndexOutOfBoundsException",
        "boolean isNumber(int) IndexOutOfBoundsException",
        "boolean canWiden(int, int) IndexOutOfBoundsException",
        "long digest()",
    };

    public static void main(String[] args) {
        Class<TypedColumns> face = TypedColumns.class;
        Check.same("public", Modifier.isPublic(face.getModifiers()), true);
        Check.same("final", Modifier.isFinal(face.getModifiers()), true);
        Set<String> found = new TreeSet<>();
        Set<String> names = new TreeSet<>();
        for (Method method : face.getDeclaredMethods()) {
            if (!Modifier.isPrivate(method.getModifiers())) {
                found.add(signature(method));
                names.add(method.getName());
                Check.same(method.getName() + " is public and not static",
                        method.getModifiers() & (Modifier.PUBLIC | Modifier.STATIC), Modifier.PUBLIC);
            }
        }
        Check.same("the methods", found, new TreeSet<>(Arrays.asList(FACE)));
        for (Method method : face.getDeclaredMethods()) {
            if (Modifier.isPrivate(method.getModifiers())) {
                Check.same("a private method named " + method.getName(), names.contains(method.getName()), false);
            }
        }
        Constructor<?>[] constructors = face.getDeclaredConstructors();
        Check.same("the constructors", Arrays.toString(constructors), "[public TypedColumns()]");
        fieldsAndClasses(face);
        Check.end();
    }

    private static String signature(Method method) {
        StringBuilder text = new StringBuilder(method.getReturnType() + " " + method.getName() + "(");
        Class<?>[] parameters = method.getParameterTypes();
        for (int k = 0; k < parameters.length; k++) {
            text.append(k == 0 ? "" : ", ").append(parameters[k]);
        }
        text.append(")");
        for (Class<?> exception : method.getExceptionTypes()) {
            text.append(" ").append(exception.getSimpleName());
        }
        return text.toString();
    }

    private static void fieldsAndClasses(Class<?> face) {
        for (Field field : face.getDeclaredFields()) {
            int modifiers = field.getModifiers();
            Check.same(field + " is private", Modifier.isPrivate(modifiers), true);
            Check.same(field + " is final if it is static",
                    !Modifier.isStatic(modifiers) || Modifier.isFinal(modifiers), true);
        }
        for (Class<?> inside : face.getDeclaredClasses()) {
            Check.same(inside + " is static", Modifier.isStatic(inside.getModifiers()), true);
            Check.same(inside + " is private", Modifier.isPrivate(inside.getModifiers()), true);
        }
    }
}
