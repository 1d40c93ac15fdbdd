import java.lang.reflect.Constructor;
import java.lang.reflect.Field;
import java.lang.reflect.Method;
import java.lang.reflect.Modifier;
import java.util.TreeSet;

/** The face is the document's, and nothing more of the class can be seen. */
public final class FaceTest {
    private static final String[] METHODS = {
        "public int insert(int,int) throws IndexOutOfBoundsException,IllegalArgumentException,IllegalStateException",
        "public int remove(int) throws IndexOutOfBoundsException",
        "public int length()",
        "public int letterAt(int) throws IndexOutOfBoundsException",
        "public boolean mark(int,int,int) throws IndexOutOfBoundsException,IllegalArgumentException",
        "public int unmark(int,int) throws IndexOutOfBoundsException",
        "public int letter(int) throws IllegalArgumentException,IllegalStateException",
        "public int marked(int) throws IndexOutOfBoundsException,IllegalStateException",
        "public int pair(int,int,int) throws IndexOutOfBoundsException,IllegalArgumentException,IllegalStateException",
        "public int near(int,int,int) throws IndexOutOfBoundsException,IllegalArgumentException,IllegalStateException",
        "public int only(int,boolean) throws IndexOutOfBoundsException,IllegalStateException",
        "public int nodes()",
        "public int regions(int) throws IndexOutOfBoundsException",
        "public int regionsOneByOne(int) throws IndexOutOfBoundsException",
        "public int regionAt(int,int) throws IndexOutOfBoundsException",
        "public boolean has(int,int,int) throws IndexOutOfBoundsException",
        "public int covered(int) throws IndexOutOfBoundsException",
        "public int longest(int) throws IndexOutOfBoundsException",
        "public int deepest(int) throws IndexOutOfBoundsException",
    };
    private static final String CONSTANTS = "AHEAD AND BARE BEHIND BUT HOLDING IN OR OUT SPAN";

    private static final Check check = new Check("FaceTest");

    public static void main(String[] args) {
        check.same("the class", Modifier.PUBLIC | Modifier.FINAL, Regionry.class.getModifiers());
        methods();
        constants();
        constructors();
        namesInside();
        check.end();
    }

    private static void methods() {
        TreeSet<String> due = new TreeSet<>();
        for (String method : METHODS) {
            due.add(method);
        }
        TreeSet<String> found = new TreeSet<>();
        for (Method method : Regionry.class.getDeclaredMethods()) {
            if (!Modifier.isPrivate(method.getModifiers()) && !method.isSynthetic()) {
                found.add(method.toGenericString().replace("java.lang.", "").replace("Regionry.", ""));
            }
        }
        check.same("the methods", String.join("\n", due), String.join("\n", found));
    }

    private static void constants() {
        TreeSet<String> found = new TreeSet<>();
        for (Field field : Regionry.class.getDeclaredFields()) {
            if (!Modifier.isPrivate(field.getModifiers())) {
                found.add(field.getName());
                check.same(field.getName() + "'s modifiers", Modifier.PUBLIC | Modifier.STATIC | Modifier.FINAL, field.getModifiers());
                check.same(field.getName() + "'s type", "int", field.getType().getName());
            }
        }
        check.same("the constants", CONSTANTS, String.join(" ", found));
    }

    private static void constructors() {
        Constructor<?>[] found = Regionry.class.getDeclaredConstructors();
        check.same("how many constructors", 1, found.length);
        check.same("the constructor", "public Regionry()", found[0].toGenericString());
    }

    private static void namesInside() {
        TreeSet<String> names = new TreeSet<>();
        for (Method method : Regionry.class.getDeclaredMethods()) {
            if (Modifier.isPublic(method.getModifiers())) {
                names.add(method.getName());
            }
        }
        for (Class<?> inside : Regionry.class.getDeclaredClasses()) {
            check.same(inside + " is static", true, Modifier.isStatic(inside.getModifiers()));
            check.same(inside + " is public", false, Modifier.isPublic(inside.getModifiers()));
            for (Method method : inside.getDeclaredMethods()) {
                check.same(method + " bears a name of the face", false, names.contains(method.getName()));
            }
        }
        for (Method method : Regionry.class.getDeclaredMethods()) {
            boolean isHidden = Modifier.isPrivate(method.getModifiers());
            check.same(method + " is private and bears a name of the face", false, isHidden && names.contains(method.getName()));
        }
    }
}
