import java.lang.reflect.Constructor;
import java.lang.reflect.Field;
import java.lang.reflect.Member;
import java.lang.reflect.Method;
import java.lang.reflect.Modifier;
import java.util.Arrays;
import java.util.Set;
import java.util.TreeSet;

/** The public face is the document's, and nothing more (LANGUAGE.md, rules 1, 2, 5 and 11). */
public final class FaceTests {
    private static final String[] FACE = {
        "int courtier(int, int)", "int leave(int)", "int set(int, int)", "int say(int)", "int wipe()", "int fault()",
        "int judge(int)", "int behind(int, int)", "int wear(int, int)", "int deed(int, int)", "int late(int)",
        "int done()", "int proper()", "int can(int, int, int)", "int match(int, int, int)", "int all(int, int)",
        "int mended(int)", "int strikes(int, int, int, int)", "int often(int, int, int, int, int)",
        "int seen(int, boolean)", "int forget()", "int wore()", "int ask(int)", "long tear(int, int, int, int, int)",
        "int vespers(int, int)", "int reign(int, int, int)", "int image(int)", "int restore(int)", "int told(int)"};
    private static final String[] CONSTANTS = {
        "int UNKNOWN", "int OUTSIDE", "int STATE", "int FULL", "int NO", "int NONE", "long GONE"};

    private FaceTests() {
    }

    public static void main(String[] args) {
        Due due = new Due("FaceTests");
        Class<?> face = GloveHours.class;
        due.holds("public and final", face.getModifiers() == (Modifier.PUBLIC | Modifier.FINAL));
        due.holds("of no package", face.getPackageName().isEmpty());
        Set<String> methods = new TreeSet<>();
        Set<String> names = new TreeSet<>();
        for (Method method : face.getDeclaredMethods()) {
            if (!Modifier.isPrivate(method.getModifiers())) {
                String parameters = Arrays.toString(method.getParameterTypes());
                methods.add(method.getReturnType() + " " + method.getName() + "("
                        + parameters.substring(1, parameters.length() - 1) + ")");
                names.add(method.getName());
                due.holds(method + " is public alone", method.getModifiers() == Modifier.PUBLIC);
            }
        }
        due.holds("the methods " + methods, methods.equals(new TreeSet<>(Arrays.asList(FACE))));
        Set<String> constants = new TreeSet<>();
        for (Field field : face.getDeclaredFields()) {
            if (!Modifier.isPrivate(field.getModifiers())) {
                constants.add(field.getType() + " " + field.getName());
                due.holds(field + " is a constant",
                        field.getModifiers() == (Modifier.PUBLIC | Modifier.STATIC | Modifier.FINAL));
            }
        }
        due.holds("the constants " + constants, constants.equals(new TreeSet<>(Arrays.asList(CONSTANTS))));
        Constructor<?>[] constructors = face.getDeclaredConstructors();
        due.holds("one constructor", constructors.length == 1 && Modifier.isPublic(constructors[0].getModifiers())
                && constructors[0].getParameterCount() == 0);
        inside(due, face, names);
        due.end();
    }

    private static void inside(Due due, Class<?> face, Set<String> names) {
        members(due, face, names);
        due.holds("a dozen classes at most", face.getDeclaredClasses().length < 12);
        for (Class<?> inner : face.getDeclaredClasses()) {
            int kind = inner.getModifiers();
            due.holds(inner + " is static", Modifier.isStatic(kind));
            due.holds(inner + " is not public", !Modifier.isPublic(kind) && !Modifier.isProtected(kind));
            due.same(inner + " holds classes", inner.getDeclaredClasses().length, 0);
            members(due, inner, names);
        }
    }

    private static void members(Due due, Class<?> one, Set<String> names) {
        int changing = 0;
        for (Field field : one.getDeclaredFields()) {
            boolean isStatic = Modifier.isStatic(field.getModifiers());
            due.holds(field + " is no static state", !isStatic || Modifier.isFinal(field.getModifiers()));
            changing += isStatic ? 0 : 1;
        }
        due.holds(one + " has some twenty fields at most", changing <= 20);
        for (Method method : one.getDeclaredMethods()) {
            boolean ofFace = one == GloveHours.class && Modifier.isPublic(method.getModifiers());
            due.holds(method + " bears no public one's name", ofFace || !names.contains(method.getName()));
            due.holds(method + " has seven parameters at most", method.getParameterCount() <= 7);
            due.holds(method + " is no lambda", !method.isSynthetic());
            due.holds(method + " declares nothing thrown", method.getExceptionTypes().length == 0);
            noOverride(due, method);
        }
    }

    private static void noOverride(Due due, Member method) {
        due.holds(method + " is none of Object's",
                !Set.of("equals", "hashCode", "toString").contains(method.getName()));
    }
}
