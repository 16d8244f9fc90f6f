import java.io.IOException;
import java.lang.reflect.InvocationTargetException;
import java.lang.reflect.Method;
import java.nio.charset.StandardCharsets;
import java.nio.file.Files;
import java.nio.file.Path;
import java.util.Set;
import java.util.TreeSet;
import java.util.regex.Matcher;
import java.util.regex.Pattern;
import java.util.stream.Collectors;
import java.util.stream.Stream;

/** What README.md says is true: its calls have the answers beside them, and the tests that it names are all there are. */
public final class ReadmeTest {
    private static final Pattern CALL = Pattern.compile("(?m)^x\\.(\\w+)\\((.*)\\); *// (throws \\w+|[-\\w]+)");
    private static final Pattern TEST = Pattern.compile("`(\\w+Test)`");
    private static final Path TESTS = Path.of("src/test/java");

    public static void main(String[] args) throws IOException, ReflectiveOperationException {
        Checks checks = new Checks();
        String readme = Files.readString(Path.of("README.md"), StandardCharsets.UTF_8);
        callsAnswerWhatStandsBeside(checks, readme);
        theTestsAreAllNamed(checks, readme);
        namedFilesAreThere(checks, readme);
        checks.finish();
    }

    private static void callsAnswerWhatStandsBeside(Checks checks, String readme) throws ReflectiveOperationException {
        ValueReckoner x = new ValueReckoner();
        Set<String> called = new TreeSet<>();
        Matcher call = CALL.matcher(readme);
        while (call.find()) {
            called.add(call.group(1));
            checks.due(call.group(), answer(x, call.group(1), call.group(2)), call.group(3));
        }
        checks.due("methods that README.md shows", called, Set.of("feed", "end", "value", "let", "holds", "clear", "count"));
    }

    private static String answer(ValueReckoner x, String name, String list) throws ReflectiveOperationException {
        String[] texts = list.isEmpty() ? new String[0] : list.split(", *");
        Class<?>[] types = new Class<?>[texts.length];
        Object[] arguments = new Object[texts.length];
        for (int i = 0; i < texts.length; i++) {
            types[i] = int.class;
            arguments[i] = Integer.decode(texts[i]);
        }
        Method method = ValueReckoner.class.getMethod(name, types);
        try {
            return String.valueOf(method.invoke(x, arguments));
        } catch (InvocationTargetException e) {
            return "throws " + e.getCause().getClass().getSimpleName();
        }
    }

    private static void theTestsAreAllNamed(Checks checks, String readme) throws IOException {
        Set<String> named = new TreeSet<>();
        Matcher test = TEST.matcher(readme);
        while (test.find()) {
            named.add(test.group(1));
        }
        try (Stream<Path> files = Files.list(TESTS)) {
            Set<String> present = files.map(file -> file.getFileName().toString()).filter(name -> name.endsWith("Test.java"))
                .map(name -> name.replace(".java", "")).collect(Collectors.toCollection(TreeSet::new));
            checks.due("tests that README.md names", named, present);
        }
    }

    private static void namedFilesAreThere(Checks checks, String readme) {
        for (String file : new String[] {".ci/run", "src/main/java/ValueReckoner.java", "src/test/java/Checks.java",
            "../shared/tests"}) {
            checks.due("README.md names " + file, readme.contains(file), true);
            checks.due(file + " is there", Files.exists(Path.of(file)), true);
        }
    }
}
