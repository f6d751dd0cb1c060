import java.lang.reflect.Constructor;
import java.lang.reflect.Executable;
import java.lang.reflect.Field;
import java.lang.reflect.Method;
import java.lang.reflect.Modifier;
import java.util.Arrays;
import java.util.Set;
import java.util.TreeSet;

/** The face is the document's: each member with its types and its throws, and no other one. Nothing static changes. */
public final class FaceTest {

    private static final String[] FACE = {
        "int BARE", "int ROUND", "int MIRROR", "char BARE_CELL", "char LEAF", "char CUT",
        "new()",
        "void sides(int) IllegalArgumentException IllegalStateException",
        "void plant(int) IndexOutOfBoundsException IllegalStateException",
        "int trellis(int, int) IndexOutOfBoundsException IllegalArgumentException",
        "int cut(int, int) IndexOutOfBoundsException IllegalStateException",
        "int grow() IllegalStateException",
        "char look(int, int) IndexOutOfBoundsException",
        "int shadeOf(int, int) IndexOutOfBoundsException",
        "int holdersOf(int, int) IndexOutOfBoundsException",
        "int neighboursOf(int, int) IndexOutOfBoundsException",
        "int leavesIn(int) IndexOutOfBoundsException",
        "int leaves()", "int lit()", "int generation()", "int cutsLeft()", "int broken()",
        "int leavesNext()", "int repeatsIn()", "int bestCut()", "void clear()",
    };

    public static void main(String[] args) {
        Set<String> want = new TreeSet<>(Arrays.asList(FACE));
        Check.due("the face", faceOf(VineWall.class), want);
        Check.due("the class is public and final",
            VineWall.class.getModifiers(), Modifier.PUBLIC | Modifier.FINAL);
        staticsAreConstants(VineWall.class);
        for (Class<?> inside : VineWall.class.getDeclaredClasses()) {
            staticsAreConstants(inside);
            Check.due(inside.getName() + " is static", Modifier.isStatic(inside.getModifiers()), true);
            Check.due(inside.getName() + " is public", Modifier.isPublic(inside.getModifiers()), false);
            Check.due(inside.getName() + " is protected", Modifier.isProtected(inside.getModifiers()), false);
        }
        noPrivateMethodBearsAPublicName();
        Check.end("FaceTest");
    }

    private static Set<String> faceOf(Class<?> type) {
        Set<String> face = new TreeSet<>();
        for (Field field : type.getDeclaredFields()) {
            if (!Modifier.isPrivate(field.getModifiers())) {
                Check.due(field.getName() + " is a constant", field.getModifiers(),
                    Modifier.PUBLIC | Modifier.STATIC | Modifier.FINAL);
                face.add(field.getType() + " " + field.getName());
            }
        }
        for (Constructor<?> constructor : type.getDeclaredConstructors()) {
            addExecutable(face, "new", constructor);
        }
        for (Method method : type.getDeclaredMethods()) {
            addExecutable(face, method.getReturnType() + " " + method.getName(), method);
        }
        return face;
    }

    private static void addExecutable(Set<String> face, String name, Executable executable) {
        if (Modifier.isPrivate(executable.getModifiers())) {
            return;
        }
        Check.due(name + " is public and no more", executable.getModifiers(), Modifier.PUBLIC);
        String parameters = Arrays.toString(executable.getParameterTypes());
        StringBuilder text = new StringBuilder(name);
        text.append('(').append(parameters, 1, parameters.length() - 1).append(')');
        for (Class<?> thrown : executable.getExceptionTypes()) {
            text.append(' ').append(thrown.getSimpleName());
        }
        face.add(text.toString());
    }

    /** What is static is shared by all walls: it must not be able to change. */
    private static void staticsAreConstants(Class<?> type) {
        for (Field field : type.getDeclaredFields()) {
            if (Modifier.isStatic(field.getModifiers())) {
                Check.due(field.getName() + " is final", Modifier.isFinal(field.getModifiers()), true);
                Check.due(field.getName() + " is a number or a sign", field.getType().isPrimitive(), true);
            }
        }
    }

    private static void noPrivateMethodBearsAPublicName() {
        Set<String> names = new TreeSet<>();
        for (Method method : VineWall.class.getMethods()) {
            names.add(method.getName());
        }
        for (Method method : VineWall.class.getDeclaredMethods()) {
            boolean hidden = Modifier.isPrivate(method.getModifiers());
            Check.due(method.getName() + " is hidden behind a public name",
                hidden && names.contains(method.getName()), false);
        }
    }
}
