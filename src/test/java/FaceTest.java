import java.lang.reflect.Constructor;
import java.lang.reflect.Field;
import java.lang.reflect.Method;
import java.lang.reflect.Modifier;
import java.util.Arrays;
import java.util.Set;
import java.util.TreeSet;

/** The class has the document's face and no other member that can be seen from outside. */
public final class FaceTest {
    private static final String[] FACE = {
        "void field(char, int, int, boolean) IllegalArgumentException IllegalStateException",
        "int insert() NoSuchElementException",
        "void remove(int) IllegalArgumentException NoSuchElementException",
        "void put(int, char, int) IllegalArgumentException NoSuchElementException IllegalStateException",
        "int get(int, char) IllegalArgumentException NoSuchElementException",
        "boolean bit(int, int) IllegalArgumentException",
        "int search(int, int, boolean)",
        "void multi(int, int) IllegalArgumentException",
        "boolean responds(int) IllegalArgumentException",
        "int first()",
        "boolean write(long)",
        "int wipe()",
        "int run() IllegalArgumentException NoSuchElementException",
        "int place()",
        "int refused()",
        "int listed(int) IndexOutOfBoundsException",
    };

    public static void main(String[] args) {
        Set<String> seen = new TreeSet<>();
        for (Method m : BitLoom.class.getDeclaredMethods()) {
            if (!Modifier.isPrivate(m.getModifiers()) && !m.isSynthetic()) {
                Check.due(m.getName() + " is public", true, Modifier.isPublic(m.getModifiers()));
                seen.add(signature(m));
            }
        }
        Check.due("the methods", new TreeSet<>(Arrays.asList(FACE)), seen);
        for (Field f : BitLoom.class.getDeclaredFields()) {
            Check.due(f.getName() + " is private", true, Modifier.isPrivate(f.getModifiers()));
        }
        Constructor<?>[] made = BitLoom.class.getDeclaredConstructors();
        Check.due("constructors", 1, made.length);
        Check.due("the constructor is public", true, Modifier.isPublic(made[0].getModifiers()));
        Check.due("parameters of it", 0, made[0].getParameterCount());
        Check.due("the class is final", true, Modifier.isFinal(BitLoom.class.getModifiers()));
        Check.end();
    }

    private static String signature(Method m) {
        StringBuilder s = new StringBuilder(m.getReturnType().getName());
        s.append(' ').append(m.getName()).append('(');
        for (int i = 0; i < m.getParameterCount(); i++) {
            s.append(i == 0 ? "" : ", ").append(m.getParameterTypes()[i].getName());
        }
        s.append(')');
        for (Class<?> e : m.getExceptionTypes()) {
            s.append(' ').append(e.getSimpleName());
        }
        return s.toString();
    }
}
