import java.io.IOException;
import java.lang.reflect.InvocationTargetException;
import java.lang.reflect.Method;
import java.nio.file.Files;
import java.nio.file.Path;
import java.util.List;
import java.util.regex.Matcher;
import java.util.regex.Pattern;
import java.util.stream.Collectors;
import java.util.stream.Stream;

/** README.md says how to use the class: its example answers what it says, and no call or test is left out. */
public final class ReadmeTest {
    private static final Path README = Path.of("README.md");
    private static final Path TESTS = Path.of("src/test/java");
    private static final Pattern CALL = Pattern.compile("m\\.(\\w+)\\(([^)]*)\\); *// (?:= (-?\\w+)|throws (\\w+))?.*");

    public static void main(String[] args) throws IOException, ReflectiveOperationException {
        List<String> lines = Files.readAllLines(README);
        example(lines);
        namesAllCalls(String.join("\n", lines));
        namesAllTests(String.join("\n", lines));
        Check.end("ReadmeTest");
    }

    private static void example(List<String> lines) throws ReflectiveOperationException {
        Check.sentence("README.md says how to use the class");
        int begin = lines.indexOf("```java");
        Check.same("the example begins by making an object", lines.get(begin + 1).startsWith("ReplayMachine m = new ReplayMachine(7);"), true);
        ReplayMachine m = new ReplayMachine(7);
        int calls = 0;
        for (int i = begin + 2; !lines.get(i).equals("```"); i++) {
            Matcher call = CALL.matcher(lines.get(i));
            Check.same(lines.get(i) + " is a call", call.matches(), true);
            Check.same(lines.get(i) + " is as it says", isAsItSays(m, call), true);
            calls++;
        }
        Check.same("there are calls", calls > 0, true);
    }

    /** A call without a told answer has only to throw nothing. */
    private static boolean isAsItSays(ReplayMachine m, Matcher call) throws ReflectiveOperationException {
        Object[] values = values(call.group(2));
        Class<?>[] types = Stream.of(values).map(v -> int.class).toArray(Class<?>[]::new);
        Method method = ReplayMachine.class.getMethod(call.group(1), types);
        try {
            String answer = String.valueOf(method.invoke(m, values));
            return call.group(4) == null && (call.group(3) == null || call.group(3).equals(answer));
        } catch (InvocationTargetException e) {
            return e.getCause().getClass().getSimpleName().equals(call.group(4));
        }
    }

    /** The arguments, each a number or a word written N << 5 | opcode. */
    private static Object[] values(String arguments) {
        if (arguments.isEmpty()) {
            return new Object[0];
        }
        return Stream.of(arguments.split(", ")).map(ReadmeTest::value).toArray();
    }

    private static Integer value(String argument) {
        String[] parts = argument.split(" << 5 \\| ");
        int last = Integer.parseInt(parts[parts.length - 1]);
        return parts.length == 1 ? last : Integer.parseInt(parts[0]) << 5 | last;
    }

    private static void namesAllCalls(String text) {
        Check.sentence("README.md says how to use the class: all its calls");
        for (Method method : ReplayMachine.class.getMethods()) {
            if (method.getDeclaringClass() == ReplayMachine.class) {
                Check.same("it names " + method.getName(), text.contains("`" + method.getName() + "("), true);
            }
        }
    }

    private static void namesAllTests(String text) throws IOException {
        Check.sentence("README.md says how to run its tests: all of them");
        Check.same("it names the script", text.contains("\n.ci/run\n"), true);
        List<String> names;
        try (Stream<Path> files = Files.list(TESTS)) {
            names = files.map(f -> f.getFileName().toString()).filter(n -> n.endsWith("Test.java")).collect(Collectors.toList());
        }
        for (String name : names) {
            Check.same("it names " + name, text.contains("| `" + name.replace(".java", "") + "` |"), true);
        }
        Check.same("there are tests", names.size() > 1, true);
    }
}
