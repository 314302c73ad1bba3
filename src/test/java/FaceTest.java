import java.lang.reflect.Constructor;
import java.lang.reflect.Field;
import java.lang.reflect.Method;
import java.lang.reflect.Modifier;
import java.util.Arrays;
import java.util.Set;
import java.util.TreeSet;

/** The public face is the document's and nothing else is seen from outside. */
public final class FaceTest {
    private static final Set<String> METHODS = Set.of(
        "boolean register(int, long)", "boolean rotate(int)", "int prekeys(int, int)", "boolean spoil(int, int, int)",
        "int begin(int, int)", "int send(int, int, long)", "boolean alter(int, int, long)", "int copy(int)",
        "int open(int)", "long text()", "long envelope(int, int)", "int user(int, int)", "int sessions(int, int)",
        "int session(int, int, int, int)", "int power(int, int)", "long mix(long, int, int)");
    private static final Set<String> CONSTANTS = Set.of(
        "NONE", "OPENED", "FALSE", "TOO_FAR", "NO_PREKEY", "MALFORMED", "USED", "NO_SESSION");

    private static final Due DUE = new Due("FaceTest");

    public static void main(String[] args) {
        Class<?> face = RatchetPost.class;
        DUE.is("public and final", face.getModifiers(), Modifier.PUBLIC | Modifier.FINAL);
        methods(face);
        constants(face);
        Constructor<?>[] made = face.getDeclaredConstructors();
        DUE.is("one constructor", made.length, 1);
        DUE.is("public constructor without arguments", made[0].toString().equals("public RatchetPost()"), true);
        for (Class<?> inside : face.getDeclaredClasses()) {
            int is = inside.getModifiers();
            DUE.is(inside + " is static", Modifier.isStatic(is), true);
            DUE.is(inside + " is not public or protected", Modifier.isPublic(is) || Modifier.isProtected(is), false);
        }
        DUE.end();
    }

    private static void methods(Class<?> face) {
        Set<String> found = new TreeSet<>();
        Set<String> publicNames = new TreeSet<>();
        for (Method method : face.getDeclaredMethods()) {
            if (Modifier.isPublic(method.getModifiers())) {
                String parameters = Arrays.toString(method.getParameterTypes());
                found.add(method.getReturnType() + " " + method.getName() + "("
                    + parameters.substring(1, parameters.length() - 1) + ")");
                publicNames.add(method.getName());
            }
        }
        DUE.is("the public methods " + found, found.equals(METHODS), true);
        for (Method method : face.getDeclaredMethods()) {
            if (!Modifier.isPublic(method.getModifiers())) {
                DUE.is(method + " is private", Modifier.isPrivate(method.getModifiers()), true);
                DUE.is(method + " has a name of its own", publicNames.contains(method.getName()), false);
            }
        }
    }

    private static void constants(Class<?> face) {
        Set<String> found = new TreeSet<>();
        for (Field field : face.getDeclaredFields()) {
            int is = field.getModifiers();
            if (Modifier.isPublic(is)) {
                found.add(field.getName());
                DUE.is(field + " is a constant", Modifier.isStatic(is) && Modifier.isFinal(is), true);
                DUE.is(field + " is an int", field.getType() == int.class, true);
            } else {
                DUE.is(field + " is private", Modifier.isPrivate(is), true);
            }
        }
        DUE.is("the constants " + found, found.equals(CONSTANTS), true);
        DUE.is("NONE", RatchetPost.NONE, -1);
        DUE.is("OPENED", RatchetPost.OPENED, 0);
        DUE.is("FALSE", RatchetPost.FALSE, 1);
        DUE.is("TOO_FAR", RatchetPost.TOO_FAR, 2);
        DUE.is("NO_PREKEY", RatchetPost.NO_PREKEY, 3);
        DUE.is("MALFORMED", RatchetPost.MALFORMED, 4);
        DUE.is("USED", RatchetPost.USED, 5);
        DUE.is("NO_SESSION", RatchetPost.NO_SESSION, 6);
    }
}
