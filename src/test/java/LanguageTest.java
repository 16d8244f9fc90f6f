import java.io.IOException;
import java.lang.reflect.Field;
import java.lang.reflect.Method;
import java.lang.reflect.Modifier;
import java.nio.charset.StandardCharsets;
import java.nio.file.Files;
import java.nio.file.Path;
import java.util.ArrayList;
import java.util.Arrays;
import java.util.List;
import java.util.Set;
import java.util.regex.Matcher;
import java.util.regex.Pattern;

/** What of ../shared/LANGUAGE.md can be looked at from outside: the program's text and its classes. */
public final class LanguageTest {
    private static final Path PROGRAM = Path.of("src/main/java/ValueReckoner.java");
    private static final Set<String> FACE = Set.of("feed", "end", "value", "let", "holds", "clear", "count");
    private static final Set<String> IMPORTS = Set.of("java.util.ArrayList", "java.util.List", "java.util.Arrays",
        "java.util.Iterator", "java.util.NoSuchElementException");
    private static final Set<Class<?>> CONSTANTS = Set.of(int.class, long.class, boolean.class, char.class, String.class,
        int[].class, long[].class, char[].class, byte[].class);
    private static final int MOST_PARAMETERS = 7;
    private static final int MOST_CLASSES = 12;
    private static final int MOST_FIELDS = 20;
    private static final int MOST_LINES = 60;

    public static void main(String[] args) throws IOException {
        Checks checks = new Checks();
        String source = Files.readString(PROGRAM, StandardCharsets.ISO_8859_1);
        String code = bare(source);
        List<Class<?>> classes = classes();
        noPrivateMethodBearsANameOfTheFace(checks, classes);
        enumsHoldPlainFields(checks, classes);
        staticFieldsAreConstants(checks, classes);
        sizesAreKept(checks, classes);
        methodsAreShort(checks, code);
        importsAreAllowed(checks, code);
        wordsThatAreRuledOutDoNotStandThere(checks, code);
        exceptionsAreThrownPlainly(checks, code);
        charactersAreOfOneByte(checks);
        checks.finish();
    }

    private static List<Class<?>> classes() {
        List<Class<?>> all = new ArrayList<>(List.of(ValueReckoner.class));
        all.addAll(Arrays.asList(ValueReckoner.class.getDeclaredClasses()));
        return all;
    }

    /** The text without comments, and without what stands inside quotes. */
    private static String bare(String source) {
        Pattern parts = Pattern.compile("/\\*.*?\\*/|//[^\\n]*|\"(\\\\.|[^\"\\\\])*\"|'(\\\\.|[^'\\\\])'", Pattern.DOTALL);
        Matcher matcher = parts.matcher(source);
        StringBuilder code = new StringBuilder();
        while (matcher.find()) {
            char first = matcher.group().charAt(0);
            String lines = "\n".repeat((int) matcher.group().chars().filter(c -> c == '\n').count());
            matcher.appendReplacement(code, first == '"' ? "\"\"" : first == '\'' ? "' '" : lines);
        }
        return matcher.appendTail(code).toString();
    }

    /** Rule 1. */
    private static void noPrivateMethodBearsANameOfTheFace(Checks checks, List<Class<?>> classes) {
        for (Class<?> one : classes) {
            for (Method method : one.getDeclaredMethods()) {
                boolean isOfTheFace = one == ValueReckoner.class && Modifier.isPublic(method.getModifiers());
                checks.due(one.getName() + "." + method.getName() + " bears a name of the face",
                    !isOfTheFace && FACE.contains(method.getName()), false);
            }
        }
    }

    /** Rule 2. */
    private static void enumsHoldPlainFields(Checks checks, List<Class<?>> classes) {
        Set<Class<?>> plain = Set.of(int.class, long.class, boolean.class, String.class);
        for (Class<?> one : classes) {
            for (Field field : one.getDeclaredFields()) {
                if (one.isEnum() && !Modifier.isStatic(field.getModifiers())) {
                    checks.due(field + " is of a plain type", plain.contains(field.getType()), true);
                }
            }
        }
    }

    /** Rule 5. */
    private static void staticFieldsAreConstants(Checks checks, List<Class<?>> classes) {
        for (Class<?> one : classes) {
            for (Field field : one.getDeclaredFields()) {
                if (Modifier.isStatic(field.getModifiers()) && !field.isSynthetic()) {
                    Class<?> type = field.getType();
                    boolean isOfEnum = one.isEnum() && (type == one || type.getComponentType() == one);
                    checks.due(field + " is final", Modifier.isFinal(field.getModifiers()), true);
                    checks.due(field + " is a constant", isOfEnum || CONSTANTS.contains(type), true);
                }
            }
        }
    }

    /** Rule 11. */
    private static void sizesAreKept(Checks checks, List<Class<?>> classes) {
        checks.due("few classes", classes.size() <= MOST_CLASSES, true);
        for (Class<?> one : classes) {
            int fields = 0;
            for (Field field : one.getDeclaredFields()) {
                fields += Modifier.isStatic(field.getModifiers()) ? 0 : 1;
            }
            checks.due(one.getName() + " has few fields", fields <= MOST_FIELDS, true);
            for (Method method : one.getDeclaredMethods()) {
                checks.due(method + " has few parameters", method.getParameterCount() <= MOST_PARAMETERS, true);
            }
        }
    }

    /** Rule 11; a method begins at 4 or 8 blanks and ends at a } as far from the left. */
    private static void methodsAreShort(Checks checks, String code) {
        String[] lines = code.split("\n", -1);
        int methods = 0;
        for (int i = 0; i < lines.length; i++) {
            Matcher head = Pattern.compile("( {4}| {8})\\S.*\\) (throws .*)?\\{").matcher(lines[i]);
            if (head.matches()) {
                int end = i;
                while (end < lines.length && !lines[end].equals(head.group(1) + "}")) {
                    end++;
                }
                methods++;
                checks.due("the method at line " + (i + 1) + " is short", end - i < MOST_LINES, true);
            }
        }
        checks.due("the methods are found", methods > FACE.size(), true);
    }

    /** Rules 3 and 4. */
    private static void importsAreAllowed(Checks checks, String code) {
        Matcher imports = Pattern.compile("(?m)^import (.*);$").matcher(code);
        while (imports.find()) {
            checks.due("import of " + imports.group(1), IMPORTS.contains(imports.group(1)), true);
        }
        checks.due("a package line", Pattern.compile("(?m)^package ").matcher(code).find(), false);
        checks.due("a name with its package", Pattern.compile("(?m)^(?!import ).*\\bjavax?\\.").matcher(code).find(), false);
    }

    /** Rules 2, 3, 4, 6 and 13. */
    private static void wordsThatAreRuledOutDoNotStandThere(Checks checks, String code) {
        for (String word : new String[] {"finally", "synchronized", "assert", "Object", "Thread", "Random", "nanoTime",
            "currentTimeMillis", "getMessage", "hashCode", "getClass", "\\w+Exact", "\\w*Map", "\\w*Set",
            "System\\.(?!arraycopy)\\w+"}) {
            checks.due(word + " stands there", Pattern.compile("\\b" + word + "\\b").matcher(code).find(), false);
        }
        checks.due("a lambda or a method reference", code.contains("->") || code.contains("::"), false);
        checks.due("a static block", Pattern.compile("static\\s*\\{").matcher(code).find(), false);
    }

    /** Rule 6. */
    private static void exceptionsAreThrownPlainly(Checks checks, String code) {
        Pattern plain = Pattern.compile("throw new (IllegalStateException|IllegalArgumentException|"
            + "IndexOutOfBoundsException|ArithmeticException|UnsupportedOperationException|NoSuchElementException|"
            + "RuntimeException)\\((\"\")?\\);.*");
        for (String line : code.split("\n")) {
            int at = line.indexOf("throw ");
            checks.due("throw in " + line.strip(), at < 0 || plain.matcher(line.substring(at)).matches(), true);
        }
    }

    /** Rule 3. */
    private static void charactersAreOfOneByte(Checks checks) throws IOException {
        for (byte b : Files.readAllBytes(PROGRAM)) {
            checks.due("a character of the program is ASCII", b >= 0, true);
        }
    }
}
