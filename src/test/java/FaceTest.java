import java.lang.reflect.Constructor;
import java.lang.reflect.Field;
import java.lang.reflect.Method;
import java.lang.reflect.Modifier;
import java.util.Arrays;
import java.util.HashSet;
import java.util.Set;
import java.util.TreeSet;

/** The public face: just the constants, the constructor and the calls of the document. */
public final class FaceTest {
    private static final String INDEX = "IndexOutOfBoundsException";
    private static final String ARGUMENT = "IllegalArgumentException";
    private static final String STATE = "IllegalStateException";

    private static int wrong;

    public static void main(String[] arguments) {
        int modifiers = Twinphase.class.getModifiers();
        due("a public final class", Modifier.isPublic(modifiers) && Modifier.isFinal(modifiers));
        due("without a package", Twinphase.class.getPackageName().isEmpty());
        constructors();
        methods();
        fields();
        namesOfHelpers();
        System.out.println("FaceTest: " + wrong + " wrong");
        System.exit(wrong == 0 ? 0 : 1);
    }

    private static void due(String what, boolean isSo) {
        if (!isSo) {
            wrong++;
            System.out.println("not so: " + what);
        }
    }

    private static void constructors() {
        Constructor<?>[] all = Twinphase.class.getDeclaredConstructors();
        due("one constructor", all.length == 1 && all[0].getParameterCount() == 0);
        due("a public one", Modifier.isPublic(all[0].getModifiers()) && all[0].getExceptionTypes().length == 0);
    }

    private static void methods() {
        Set<String> want = new TreeSet<>();
        face(want, "pass", "int", ARGUMENT, STATE);
        face(want, "skew", "int int", INDEX, ARGUMENT);
        face(want, "clock", "int", INDEX, STATE);
        face(want, "closed", "");
        face(want, "down", "int", INDEX, STATE);
        face(want, "up", "int", INDEX, STATE);
        face(want, "sync", "int", INDEX, STATE);
        face(want, "split", "int", INDEX, STATE);
        face(want, "merge", "int", INDEX, STATE);
        face(want, "move", "int int", INDEX, STATE);
        face(want, "begin", "int int", INDEX, ARGUMENT, STATE);
        face(want, "get", "int int", INDEX);
        face(want, "put", "int int int", INDEX, ARGUMENT);
        face(want, "commit", "int boolean", INDEX);
        face(want, "abort", "int", INDEX);
        face(want, "recover", "int", INDEX);
        face(want, "beat", "int", INDEX);
        face(want, "told", "int int", INDEX, ARGUMENT);
        face(want, "key", "int int", INDEX, ARGUMENT);
        face(want, "asOf", "int int", INDEX, ARGUMENT);
        face(want, "resolved", "");
        face(want, "feed", "int", INDEX);
        face(want, "order", "int", INDEX);
        face(want, "judged", "");
        Set<String> got = new TreeSet<>();
        for (Method method : Twinphase.class.getDeclaredMethods()) {
            if (Modifier.isPrivate(method.getModifiers())) continue;
            due("public and of an object: " + method, method.getModifiers() == Modifier.PUBLIC);
            due("answers an int: " + method, method.getReturnType() == int.class);
            face(got, method.getName(), names(method.getParameterTypes()), names(method.getExceptionTypes()).split(" "));
        }
        due("the calls are " + want + ", not " + got, want.equals(got));
    }

    private static void face(Set<String> faces, String name, String parameters, String... exceptions) {
        faces.add(name + "(" + parameters + ") " + String.join(" ", exceptions));
    }

    private static String names(Class<?>[] types) {
        return String.join(" ", Arrays.stream(types).map(Class::getSimpleName).toArray(String[]::new));
    }

    private static void fields() {
        Set<String> constants = new HashSet<>(Set.of("NONE", "SEVERAL", "GONE", "DONE", "WAITS", "RESTART", "ENDED", "DOWN",
            "PENDING", "STAGED", "COMMITTED", "ABORTED"));
        for (Field field : Twinphase.class.getDeclaredFields()) {
            if (Modifier.isPrivate(field.getModifiers())) continue;
            due("a constant of the document: " + field, constants.remove(field.getName()) && field.getType() == int.class
                && field.getModifiers() == (Modifier.PUBLIC | Modifier.STATIC | Modifier.FINAL));
        }
        due("there are no " + constants, constants.isEmpty());
        due("their numbers", Twinphase.NONE == -1 && Twinphase.SEVERAL == -2 && Twinphase.GONE == 1000 && Twinphase.DONE == 0
            && Twinphase.WAITS == -11 && Twinphase.RESTART == -12 && Twinphase.ENDED == -13 && Twinphase.DOWN == -14
            && Twinphase.PENDING == 0 && Twinphase.STAGED == 1 && Twinphase.COMMITTED == 2 && Twinphase.ABORTED == 3);
    }

    /** LANGUAGE.md, rules 1, 11 and 12: no helper bears the name of a call; seven parameters, twenty fields, twelve classes. */
    private static void namesOfHelpers() {
        Set<String> calls = new HashSet<>();
        for (Method method : Twinphase.class.getMethods()) calls.add(method.getName());
        Class<?>[] inside = Twinphase.class.getDeclaredClasses();
        due("at most twelve classes", inside.length < 12);
        for (Class<?> one : inside) {
            due("static, private or package-visible: " + one, Modifier.isStatic(one.getModifiers())
                && !Modifier.isPublic(one.getModifiers()) && !Modifier.isProtected(one.getModifiers()));
            for (Method method : one.getDeclaredMethods()) due("a name of a call: " + method, !calls.contains(method.getName()));
            small(one);
        }
        for (Method method : Twinphase.class.getDeclaredMethods()) {
            if (Modifier.isPrivate(method.getModifiers())) due("a name of a call: " + method, !calls.contains(method.getName()));
        }
        small(Twinphase.class);
    }

    private static void small(Class<?> one) {
        int fields = 0;
        for (Field field : one.getDeclaredFields()) {
            int modifiers = field.getModifiers();
            due("static, so final: " + field, !Modifier.isStatic(modifiers) || Modifier.isFinal(modifiers));
            if (!Modifier.isStatic(modifiers)) fields++;
        }
        due("at most twenty fields: " + one, fields <= 20);
        for (Method method : one.getDeclaredMethods()) due("seven parameters: " + method, method.getParameterCount() <= 7);
    }
}
