import java.lang.reflect.Constructor;
import java.lang.reflect.Field;
import java.lang.reflect.Method;
import java.lang.reflect.Modifier;
import java.util.Arrays;
import java.util.TreeSet;

/** The face is the document's, and nothing beside it can be seen. */
public final class FaceTest {
    private static final String I = "IndexOutOfBoundsException";
    private static final String A = "IllegalArgumentException";
    private static final String S = "IllegalStateException";

    public static void main(String[] args) {
        TreeSet<String> due = new TreeSet<>(Arrays.asList(
                "int mast int int int int int int " + A + " " + S,
                "int handset int int int int " + A + " " + S,
                "int speed int int " + I + " " + A,
                "int top int int " + I + " " + A,
                "boolean turn int boolean " + I,
                "boolean wake int boolean " + I,
                "int call int int " + I + " " + A + " " + S,
                "int emergency int " + I + " " + S,
                "int hang int " + I + " " + S,
                "int text int int " + I + " " + A + " " + S,
                "int forget",
                "int pass int " + A,
                "int quality int int " + I + " " + A,
                "int best int " + A,
                "int ofMast int int " + I + " " + A,
                "int ofHandset int int " + I + " " + A,
                "int ofCall int int " + I + " " + A,
                "int many int " + A,
                "double meanSeconds",
                "int endsIn int int " + I + " " + A,
                "int wouldBeOn int int " + I + " " + A,
                "int bestPlace int int " + A,
                "long digest"));
        TreeSet<String> got = new TreeSet<>();
        TreeSet<String> publicNames = new TreeSet<>();
        for (Method method : Handoverhouse.class.getDeclaredMethods()) {
            if (!Modifier.isPrivate(method.getModifiers())) {
                got.add(face(method));
                publicNames.add(method.getName());
            }
        }
        if (!got.equals(due)) {
            Check.tell("the face is " + got + ", due is " + due);
        }
        for (Method method : Handoverhouse.class.getDeclaredMethods()) {
            if (Modifier.isPrivate(method.getModifiers()) && publicNames.contains(method.getName())) {
                Check.tell("a private method bears the name " + method.getName());
            }
        }
        for (Field field : Handoverhouse.class.getDeclaredFields()) {
            Check.due("private: " + field.getName(), Modifier.isPrivate(field.getModifiers()), true);
        }
        Constructor<?>[] constructors = Handoverhouse.class.getDeclaredConstructors();
        Check.due("constructors", constructors.length, 1);
        Check.due("constructor's arguments", constructors[0].getParameterCount(), 0);
        Check.due("constructor is public", Modifier.isPublic(constructors[0].getModifiers()), true);
        Check.due("public and final", Handoverhouse.class.getModifiers(), Modifier.PUBLIC | Modifier.FINAL);
        Check.end();
    }

    private static String face(Method method) {
        StringBuilder text = new StringBuilder();
        text.append(method.getReturnType().getSimpleName()).append(' ').append(method.getName());
        for (Class<?> type : method.getParameterTypes()) {
            text.append(' ').append(type.getSimpleName());
        }
        for (Class<?> type : method.getExceptionTypes()) {
            text.append(' ').append(type.getSimpleName());
        }
        return text.toString();
    }
}
