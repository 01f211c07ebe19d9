import java.lang.reflect.Constructor;
import java.lang.reflect.Field;
import java.lang.reflect.Method;
import java.lang.reflect.Modifier;
import java.util.ArrayList;
import java.util.Arrays;
import java.util.List;
import java.util.TreeSet;

/** The public face: just the document's constants, constructor and methods, with their throws clauses. */
final class FaceTest {
    private static final String[] FACE = {
        "int clash(int,int) IllegalArgumentException",
        "int addPhase(int,int) IllegalArgumentException,IllegalStateException",
        "int addRule(int,int,int) IndexOutOfBoundsException,IllegalArgumentException,IllegalStateException",
        "int dropRule(int) IndexOutOfBoundsException,IllegalStateException",
        "int change(int,int,int) IndexOutOfBoundsException,IllegalArgumentException",
        "int set(int) IllegalArgumentException",
        "int come(int) IllegalArgumentException",
        "int run(int) IllegalArgumentException",
        "int start(int) IndexOutOfBoundsException",
        "int append(int) IllegalArgumentException,IllegalStateException",
        "int clearBuffer() ",
        "int firstError() ",
        "int build() IllegalArgumentException",
        "int undo() IllegalStateException",
        "int phase(int,int) IndexOutOfBoundsException,IllegalArgumentException",
        "int rule(int,int,int) IndexOutOfBoundsException,IllegalArgumentException",
        "int direction(int,int) IllegalArgumentException",
        "int count(int) IllegalArgumentException",
        "int starves(int,int) IndexOutOfBoundsException,IllegalArgumentException",
        "int rounds(int) IllegalArgumentException",
        "int waitFor(int,int,boolean) IndexOutOfBoundsException,IllegalArgumentException",
        "int slowest() ",
        "int remedy(int,int) IndexOutOfBoundsException,IllegalArgumentException",
        "double safeShare() ",
        "long digest() ",
    };

    public static void main(String[] args) {
        TreeSet<String> due = new TreeSet<>(Arrays.asList(FACE));
        TreeSet<String> found = new TreeSet<>();
        TreeSet<String> hidden = new TreeSet<>();
        TreeSet<String> shown = new TreeSet<>();
        for (Method method : GreenMachines.class.getDeclaredMethods()) {
            if (Modifier.isPrivate(method.getModifiers())) {
                hidden.add(method.getName());
            } else {
                shown.add(method.getName());
                found.add(described(method));
            }
        }
        for (String line : due) {
            Due.same("the face has " + line, found.contains(line) ? 1 : 0, 1);
        }
        Due.same("methods of the face", found.size(), FACE.length);
        hidden.retainAll(shown);
        Due.same("private methods with a public one's name " + hidden, hidden.size(), 0);
        checkRest();
        Due.end();
    }

    private static String described(Method method) {
        String visible = Modifier.isPublic(method.getModifiers()) ? "" : "not public ";
        return visible + method.getReturnType().getSimpleName() + " " + method.getName()
                + "(" + joined(method.getParameterTypes()) + ") " + joined(method.getExceptionTypes());
    }

    private static String joined(Class<?>[] types) {
        List<String> names = new ArrayList<>();
        for (Class<?> type : types) {
            names.add(type.getSimpleName());
        }
        return String.join(",", names);
    }

    private static void checkRest() {
        int visibleFields = 0;
        for (Field field : GreenMachines.class.getDeclaredFields()) {
            visibleFields += Modifier.isPrivate(field.getModifiers()) ? 0 : 1;
        }
        Due.same("fields that are not private", visibleFields, 1);
        Due.same("NONE", GreenMachines.NONE, -1);
        Constructor<?>[] constructors = GreenMachines.class.getDeclaredConstructors();
        Due.same("constructors", constructors.length, 1);
        Due.same("the constructor is public", constructors[0].getModifiers(), Modifier.PUBLIC);
        Due.same("its arguments", constructors[0].getParameterCount(), 0);
        Due.same("the class is public and final", GreenMachines.class.getModifiers(),
                Modifier.PUBLIC | Modifier.FINAL);
    }
}
