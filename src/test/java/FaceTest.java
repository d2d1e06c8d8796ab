import java.lang.reflect.Constructor;
import java.lang.reflect.Field;
import java.lang.reflect.Method;
import java.lang.reflect.Modifier;
import java.util.ArrayList;
import java.util.Arrays;
import java.util.List;
import java.util.Set;
import java.util.TreeSet;

/** The face of the class is that of the document, and nothing else can be seen from outside. */
public final class FaceTest {
    private static final String[] FACE = {
        "boolean put(int,int,int) throws IndexOutOfBoundsException,ArithmeticException",
        "int get(int,int) throws IndexOutOfBoundsException,java.util.NoSuchElementException",
        "int remove(int,int) throws IndexOutOfBoundsException,java.util.NoSuchElementException",
        "boolean has(int,int) throws IndexOutOfBoundsException",
        "int size(int) throws IndexOutOfBoundsException",
        "int clear(int) throws IndexOutOfBoundsException",
        "int about(int,int) throws IndexOutOfBoundsException,IllegalArgumentException",
        "int home(int,int) throws IndexOutOfBoundsException",
        "int distance(int,int) throws IndexOutOfBoundsException,java.util.NoSuchElementException",
        "int bits(int,int) throws IndexOutOfBoundsException,IllegalArgumentException",
        "int next(int,int) throws IndexOutOfBoundsException,IllegalArgumentException",
        "int key(int,int) throws IndexOutOfBoundsException,IllegalArgumentException,java.util.NoSuchElementException",
        "int count(int) throws IllegalArgumentException",
    };

    public static void main(String[] args) {
        int modifiers = HopArena.class.getModifiers();
        Check.due("public and final", Modifier.isPublic(modifiers) && Modifier.isFinal(modifiers), true);
        Check.due("NONE", HopArena.NONE, -1);
        Check.due("constructors", Arrays.toString(HopArena.class.getDeclaredConstructors()), "[public HopArena()]");
        methods();
        fields();
        nestedClasses();
        Check.end();
    }

    private static void methods() {
        Set<String> publicOnes = new TreeSet<>();
        Set<String> publicNames = new TreeSet<>();
        for (Method method : HopArena.class.getDeclaredMethods()) {
            if (Modifier.isPublic(method.getModifiers())) {
                publicOnes.add(described(method));
                publicNames.add(method.getName());
            }
        }
        Check.due("public methods", publicOnes, new TreeSet<>(Arrays.asList(FACE)));
        for (Method method : HopArena.class.getDeclaredMethods()) {
            if (!Modifier.isPublic(method.getModifiers())) {
                Check.due(method + " is private", Modifier.isPrivate(method.getModifiers()), true);
                Check.due(method + " has a name of its own", publicNames.contains(method.getName()), false);
            }
        }
    }

    private static void fields() {
        for (Field field : HopArena.class.getDeclaredFields()) {
            int modifiers = field.getModifiers();
            boolean isNone = field.getName().equals("NONE");
            Check.due(field + " is seen", !Modifier.isPrivate(modifiers), isNone);
            if (Modifier.isStatic(modifiers)) {
                Check.due(field + " is final", Modifier.isFinal(modifiers), true);
            }
        }
    }

    private static void nestedClasses() {
        for (Class<?> nested : HopArena.class.getDeclaredClasses()) {
            int modifiers = nested.getModifiers();
            Check.due(nested + " is static", Modifier.isStatic(modifiers), true);
            Check.due(nested + " is seen", Modifier.isPublic(modifiers) || Modifier.isProtected(modifiers), false);
            for (Constructor<?> constructor : nested.getDeclaredConstructors()) {
                Check.due(constructor + " is seen", Modifier.isPublic(constructor.getModifiers()), false);
            }
        }
    }

    private static String described(Method method) {
        return method.getReturnType().getSimpleName() + " " + method.getName()
                + "(" + names(method.getParameterTypes()) + ") throws " + names(method.getExceptionTypes());
    }

    private static String names(Class<?>[] classes) {
        List<String> names = new ArrayList<>();
        for (Class<?> one : classes) {
            names.add(one.getName().replace("java.lang.", ""));
        }
        return String.join(",", names);
    }
}
