import java.lang.reflect.Constructor;
import java.lang.reflect.Field;
import java.lang.reflect.Method;
import java.lang.reflect.Modifier;
import java.util.Arrays;
import java.util.TreeSet;

/** "The public face": every constructor and method, with what each may throw, and nothing else. */
public final class FaceTest {
    private static final String[] METHODS = {
        "public int feed(int, int, int, int, int) throws IndexOutOfBoundsException",
        "public int end(int) throws IllegalArgumentException",
        "public long value() throws ArithmeticException, UnsupportedOperationException",
        "public int let() throws ArithmeticException, UnsupportedOperationException, IndexOutOfBoundsException",
        "public boolean holds() throws ArithmeticException, UnsupportedOperationException",
        "public int clear()",
        "public int count(int) throws IllegalArgumentException"};

    public static void main(String[] args) {
        Checks checks = new Checks();
        theClassIsPublicAndFinal(checks);
        thereIsOneConstructor(checks);
        theMethodsAreThoseOfTheDocument(checks);
        nothingElseCanBeSeen(checks);
        classesInsideAreStaticAndNotPublic(checks);
        checks.finish();
    }

    private static void theClassIsPublicAndFinal(Checks checks) {
        Class<?> face = ValueReckoner.class;
        checks.due("the class", Modifier.toString(face.getModifiers()), "public final");
        checks.due("its name with its package", face.getName(), "ValueReckoner");
        checks.due("what it extends", face.getSuperclass(), Object.class);
        checks.due("what it implements", face.getInterfaces().length, 0);
    }

    private static void thereIsOneConstructor(Checks checks) {
        Constructor<?>[] all = ValueReckoner.class.getDeclaredConstructors();
        checks.due("constructors", all.length, 1);
        checks.due("the constructor", all[0].toGenericString(), "public ValueReckoner()");
    }

    private static void theMethodsAreThoseOfTheDocument(Checks checks) {
        TreeSet<String> seen = new TreeSet<>();
        for (Method method : ValueReckoner.class.getDeclaredMethods()) {
            if (!Modifier.isPrivate(method.getModifiers()) && !method.isSynthetic()) {
                seen.add(shown(method));
            }
        }
        checks.due("the methods that are not private", seen, new TreeSet<>(Arrays.asList(METHODS)));
    }

    private static String shown(Method method) {
        return Modifier.toString(method.getModifiers()) + " " + method.getReturnType().getSimpleName() + " "
            + method.getName() + listed("(", method.getParameterTypes(), ")")
            + (method.getExceptionTypes().length == 0 ? "" : listed(" throws ", method.getExceptionTypes(), ""));
    }

    private static String listed(String before, Class<?>[] types, String behind) {
        StringBuilder text = new StringBuilder();
        for (Class<?> type : types) {
            text.append(text.length() == 0 ? "" : ", ").append(type.getSimpleName());
        }
        return before + text + behind;
    }

    private static void nothingElseCanBeSeen(Checks checks) {
        for (Field field : ValueReckoner.class.getDeclaredFields()) {
            checks.due(field.getName() + " is private", Modifier.isPrivate(field.getModifiers()), true);
        }
    }

    private static void classesInsideAreStaticAndNotPublic(Checks checks) {
        for (Class<?> inside : ValueReckoner.class.getDeclaredClasses()) {
            int modifiers = inside.getModifiers();
            checks.due(inside.getName() + " is static", Modifier.isStatic(modifiers), true);
            checks.due(inside.getName() + " is hidden", Modifier.isPublic(modifiers) || Modifier.isProtected(modifiers), false);
        }
    }
}
