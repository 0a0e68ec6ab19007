import java.lang.reflect.Constructor;
import java.lang.reflect.Field;
import java.lang.reflect.Method;
import java.lang.reflect.Modifier;
import java.util.Arrays;
import java.util.TreeSet;

/** The public face of the document, and nothing beside it that is not private. */
public final class FaceTest {
    private static final String[] METHODS = {
        "int allocate(int, boolean) IllegalArgumentException IllegalStateException",
        "void root(int, int) IndexOutOfBoundsException",
        "int rooted(int) IndexOutOfBoundsException",
        "int read(int) IndexOutOfBoundsException IllegalStateException",
        "int write(int, int) IndexOutOfBoundsException IllegalStateException",
        "int collect()",
        "int base(int)",
        "int size(int)",
        "boolean silent(int)",
        "int block(int)",
        "int empty(int)",
        "int objects()",
        "int collections()",
    };

    public static void main(String[] args) {
        Class<?> c = GuessingHeap.class;
        Check.test("The public face: a public final class, NONE", () -> head(c));
        Check.test("The public face: the methods, and no others that are not private", () -> methods(c));
        Check.test("The public face: no field but NONE that is not private", () -> fields(c));
        Check.test("The public face: one constructor", () -> constructors(c));
        Check.end();
    }

    private static void head(Class<?> c) {
        Check.same("the class is public", Modifier.isPublic(c.getModifiers()), true);
        Check.same("the class is final", Modifier.isFinal(c.getModifiers()), true);
        Check.same("NONE", GuessingHeap.NONE, -1);
    }

    private static void methods(Class<?> c) {
        TreeSet<String> open = new TreeSet<>();
        TreeSet<String> openNames = new TreeSet<>();
        for (Method m : c.getDeclaredMethods()) {
            if (!Modifier.isPrivate(m.getModifiers())) {
                open.add(told(m));
                openNames.add(m.getName());
                Check.same(m.getName() + " is public", Modifier.isPublic(m.getModifiers()), true);
                Check.same(m.getName() + " is static", Modifier.isStatic(m.getModifiers()), false);
            }
        }
        Check.same("the methods", open.toString(), new TreeSet<>(Arrays.asList(METHODS)).toString());
        for (Method m : c.getDeclaredMethods()) {
            if (Modifier.isPrivate(m.getModifiers())) {
                Check.same("a private method has the public name " + m.getName(),
                        openNames.contains(m.getName()), false);
            }
        }
    }

    private static String told(Method m) {
        StringBuilder text = new StringBuilder();
        text.append(m.getReturnType().getSimpleName()).append(' ').append(m.getName()).append('(');
        String between = "";
        for (Class<?> p : m.getParameterTypes()) {
            text.append(between).append(p.getSimpleName());
            between = ", ";
        }
        text.append(')');
        for (Class<?> e : m.getExceptionTypes()) {
            text.append(' ').append(e.getSimpleName());
        }
        return text.toString();
    }

    private static void fields(Class<?> c) {
        for (Field f : c.getDeclaredFields()) {
            int is = f.getModifiers();
            boolean constant = f.getName().equals("NONE");
            Check.same(f.getName() + " is private", Modifier.isPrivate(is), !constant);
            Check.same(f.getName() + " is static and not final",
                    Modifier.isStatic(is) && !Modifier.isFinal(is), false);
            if (constant) {
                Check.same("NONE is public static final int", Modifier.toString(is) + " " + f.getType(),
                        "public static final int");
            }
        }
    }

    private static void constructors(Class<?> c) {
        Constructor<?>[] all = c.getDeclaredConstructors();
        Check.same("constructors", all.length, 1);
        Check.same("the constructor is public", Modifier.isPublic(all[0].getModifiers()), true);
        Check.same("the constructor's parameters", all[0].getParameterCount(), 0);
    }
}
