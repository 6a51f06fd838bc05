import java.lang.reflect.Constructor;
import java.lang.reflect.Field;
import java.lang.reflect.Method;
import java.lang.reflect.Modifier;
import java.util.ArrayList;
import java.util.Arrays;
import java.util.List;
import java.util.Set;
import java.util.TreeSet;

/** The face of the class is the document's, and nothing else of it can be reached. */
public final class FaceTest {
    private static final String[] FACE = {
        "void restart(int) throws IllegalArgumentException",
        "long pass(int) throws IllegalArgumentException, IllegalStateException",
        "int setDrift(int) throws IllegalArgumentException",
        "long trueTime()",
        "long clock()",
        "long error()",
        "long pendingSlew()",
        "int correction()",
        "long announceLeap(int, boolean) throws IllegalArgumentException, IllegalStateException",
        "long civil()",
        "int addServer(int, int, int, int) throws IllegalArgumentException, IllegalStateException",
        "int setError(int, int) throws IndexOutOfBoundsException, IllegalArgumentException",
        "long exchange(int, int, int, int) throws IndexOutOfBoundsException, IllegalArgumentException, "
            + "IllegalStateException",
        "int servers()",
        "int samples(int) throws IndexOutOfBoundsException",
        "long offset(int) throws IndexOutOfBoundsException, IllegalStateException",
        "long delay(int) throws IndexOutOfBoundsException, IllegalStateException",
        "long jitter(int) throws IndexOutOfBoundsException, IllegalStateException",
        "long distance(int) throws IndexOutOfBoundsException, IllegalStateException",
        "int agreement()",
        "boolean hasMajority()",
        "int agreeing()",
        "long low() throws IllegalStateException",
        "long high() throws IllegalStateException",
        "int survivors()",
        "long combinedOffset() throws IllegalStateException",
        "int peer()",
        "int synchronize() throws IllegalStateException",
        "int stratum()",
        "int steps()",
        "int synchronizations()",
    };

    private static final Checks checks = new Checks();

    public static void main(String[] args) throws ReflectiveOperationException {
        checks.promise("the public face");
        checks.due("the class is public and final", true, Modifier.isPublic(Clockhouse.class.getModifiers())
                && Modifier.isFinal(Clockhouse.class.getModifiers()));
        checks.due("its package", "", Clockhouse.class.getPackageName());
        methods();
        constructors();
        constants();
        classesInside();
        checks.end("FaceTest");
    }

    private static void methods() {
        Set<String> found = new TreeSet<>();
        Set<String> publicNames = new TreeSet<>();
        List<Method> hidden = new ArrayList<>();
        for (Method method : Clockhouse.class.getDeclaredMethods()) {
            if (Modifier.isPublic(method.getModifiers()) && !Modifier.isStatic(method.getModifiers())) {
                found.add(signature(method));
                publicNames.add(method.getName());
            } else {
                checks.due(method + " is private", true, Modifier.isPrivate(method.getModifiers()));
                hidden.add(method);
            }
        }
        for (Class<?> inside : Clockhouse.class.getDeclaredClasses()) {
            hidden.addAll(Arrays.asList(inside.getDeclaredMethods()));
        }
        for (Method method : hidden) {
            checks.due(method + " bears a public name", false, publicNames.contains(method.getName()));
            checks.due(method + " takes at most seven", true, method.getParameterCount() <= 7);
        }
        checks.due("the public methods", new TreeSet<>(Arrays.asList(FACE)).toString(), found.toString());
    }

    private static String signature(Method method) {
        String text = method.getReturnType() + " " + method.getName() + "(" + names(method.getParameterTypes()) + ")";
        return method.getExceptionTypes().length == 0 ? text
                : text + " throws " + names(method.getExceptionTypes());
    }

    private static String names(Class<?>[] types) {
        List<String> names = new ArrayList<>();
        for (Class<?> type : types) {
            names.add(type.getSimpleName());
        }
        return String.join(", ", names);
    }

    private static void constructors() {
        Constructor<?>[] made = Clockhouse.class.getDeclaredConstructors();
        checks.due("the number of constructors", 1, made.length);
        checks.due("the constructor is public", true, Modifier.isPublic(made[0].getModifiers()));
        checks.due("the constructor takes nothing", 0, made[0].getParameterCount());
    }

    private static void constants() throws IllegalAccessException {
        Set<String> found = new TreeSet<>();
        int fields = 0;
        for (Field field : Clockhouse.class.getDeclaredFields()) {
            if (Modifier.isPublic(field.getModifiers())) {
                found.add(field.getType() + " " + field.getName() + " = " + field.getInt(null));
            } else {
                checks.due(field + " is private", true, Modifier.isPrivate(field.getModifiers()));
            }
            fields += Modifier.isStatic(field.getModifiers()) ? 0 : 1;
            checks.due(field + " is final, if static", true,
                    !Modifier.isStatic(field.getModifiers()) || Modifier.isFinal(field.getModifiers()));
        }
        checks.due("the constants", "[int NONE = -1, int SLEWED = 0, int STEPPED = 1]", found.toString());
        checks.due("at most twenty fields", true, fields <= 20);
    }

    private static void classesInside() {
        for (Class<?> inside : Clockhouse.class.getDeclaredClasses()) {
            int modifiers = inside.getModifiers();
            checks.due(inside + " is static", true, Modifier.isStatic(modifiers));
            checks.due(inside + " is hidden", false, Modifier.isPublic(modifiers) || Modifier.isProtected(modifiers));
        }
        checks.due("at most twelve classes", true, Clockhouse.class.getDeclaredClasses().length < 12);
    }
}
