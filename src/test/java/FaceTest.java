import java.lang.reflect.Constructor;
import java.lang.reflect.Field;
import java.lang.reflect.Method;
import java.lang.reflect.Modifier;
import java.util.Arrays;
import java.util.TreeSet;

/** The public face is the document's, and nothing else of the class can be seen. */
public final class FaceTest {
    private static final String[] METHODS = {
        "add(int) boolean []",
        "end(int, boolean) int [IllegalArgumentException, IllegalStateException]",
        "sync() int [IllegalStateException]",
        "cut(int, int) boolean []",
        "start() int []",
        "poke(int, int, int) boolean []",
        "disk(int, int) int [IllegalArgumentException, ArrayIndexOutOfBoundsException]",
        "at(int, int) int [IllegalStateException, NoSuchElementException, ArrayIndexOutOfBoundsException]",
        "verify() int [IllegalStateException]",
        "extract(int, int) int [IllegalStateException, NoSuchElementException]",
        "look(int, int) int [IllegalStateException, NoSuchElementException]",
        "count(int) int []",
    };

    private static final Checks CHECKS = new Checks();

    public static void main(String[] args) {
        CHECKS.due("the class is public and final", HouseLog.class.getModifiers(), Modifier.PUBLIC | Modifier.FINAL);
        CHECKS.due("NONE", HouseLog.NONE, -1);
        methods();
        fields();
        constructors();
        CHECKS.finish();
    }

    private static void methods() {
        TreeSet<String> seen = new TreeSet<>();
        TreeSet<String> publicNames = new TreeSet<>();
        for (Method m : HouseLog.class.getDeclaredMethods()) {
            if (!Modifier.isPrivate(m.getModifiers())) {
                seen.add(m.getName() + "(" + names(m.getParameterTypes()) + ") " + m.getReturnType().getSimpleName()
                        + " [" + names(m.getExceptionTypes()) + "]");
                publicNames.add(m.getName());
                CHECKS.due(m.getName() + " is public alone", m.getModifiers(), Modifier.PUBLIC);
            }
        }
        if (!seen.equals(new TreeSet<>(Arrays.asList(METHODS)))) {
            CHECKS.tell("the methods seen are " + seen);
        }
        for (Method m : HouseLog.class.getDeclaredMethods()) {
            if (Modifier.isPrivate(m.getModifiers()) && publicNames.contains(m.getName())) {
                CHECKS.tell("a private method bears the public name " + m.getName());
            }
        }
    }

    private static String names(Class<?>[] classes) {
        StringBuilder all = new StringBuilder();
        for (Class<?> c : classes) {
            all.append(all.length() == 0 ? "" : ", ").append(c.getSimpleName());
        }
        return all.toString();
    }

    private static void fields() {
        for (Field f : HouseLog.class.getDeclaredFields()) {
            int m = f.getModifiers();
            if (!Modifier.isPrivate(m) && !f.getName().equals("NONE")) {
                CHECKS.tell("the field " + f.getName() + " is not private");
            }
            if (Modifier.isStatic(m) && !Modifier.isFinal(m)) {
                CHECKS.tell("the static field " + f.getName() + " is not final");
            }
        }
    }

    private static void constructors() {
        Constructor<?>[] all = HouseLog.class.getDeclaredConstructors();
        CHECKS.due("constructors", all.length, 1);
        CHECKS.due("the constructor is public", all[0].getModifiers(), Modifier.PUBLIC);
        CHECKS.due("the constructor takes one int", Arrays.equals(all[0].getParameterTypes(), new Class<?>[] {int.class}), true);
    }
}
