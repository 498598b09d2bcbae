import java.io.IOException;
import java.lang.reflect.Method;
import java.lang.reflect.Modifier;
import java.nio.file.Files;
import java.nio.file.Path;
import java.util.Arrays;
import java.util.HashMap;
import java.util.List;
import java.util.Map;
import java.util.regex.Matcher;
import java.util.regex.Pattern;
import java.util.stream.Collectors;
import java.util.stream.Stream;

/** README.md tells the truth: its example is run line by line, and it names each call and each test. */
public final class ReadmeTest {
    /** A call of the example, the variable that it sets, if any, and its answer, which ends at a colon. */
    private static final Pattern LINE =
        Pattern.compile("(?:int (\\w+) = )?vault\\.(\\w+)\\(([^)]*)\\); +// ([^:]+): .+");
    private static final String FIRST_LINE = "VaultDoors vault = new VaultDoors();";

    private static int wrong = 0;

    private static void fault(String text) {
        wrong++;
        System.out.println(text);
    }

    private static List<String> example(List<String> readme) {
        int start = readme.indexOf("```java");
        List<String> rest = readme.subList(start + 1, readme.size());
        return start < 0 ? List.of() : rest.subList(0, rest.indexOf("```"));
    }

    private static Object call(VaultDoors vault, String name, String numbers, Map<String, Integer> variables)
            throws ReflectiveOperationException {
        Object[] arguments = Stream.of(numbers.split(", *")).filter(n -> !n.isEmpty())
            .map(n -> variables.containsKey(n) ? variables.get(n) : Integer.valueOf(n)).toArray();
        Class<?>[] types = new Class<?>[arguments.length];
        Arrays.fill(types, int.class);
        Method method = VaultDoors.class.getMethod(name, types);
        return method.invoke(vault, arguments);
    }

    private static void runExample(List<String> lines) throws ReflectiveOperationException {
        if (lines.size() < 2 || !lines.get(0).equals(FIRST_LINE)) {
            fault("README.md has no example that begins with " + FIRST_LINE);
            return;
        }
        VaultDoors vault = new VaultDoors();
        Map<String, Integer> variables = new HashMap<>();
        for (String line : lines.subList(1, lines.size())) {
            Matcher parts = LINE.matcher(line);
            if (!parts.matches()) {
                fault("README.md: not a call with its answer: " + line);
                continue;
            }
            Object answer = call(vault, parts.group(2), parts.group(3), variables);
            if (!String.valueOf(answer).equals(parts.group(4))) {
                fault("README.md: " + line + " -- answered " + answer);
            }
            if (parts.group(1) != null) {
                variables.put(parts.group(1), (Integer) answer);
            }
        }
    }

    private static void namesEachCall(String readme) {
        for (Method method : VaultDoors.class.getDeclaredMethods()) {
            boolean isCall = Modifier.isPublic(method.getModifiers());
            if (isCall && !readme.contains("| `" + method.getName() + "(")) {
                fault("README.md does not tell of " + method.getName() + "()");
            }
        }
    }

    private static void namesEachTest(String readme) throws IOException {
        List<String> files;
        try (Stream<Path> tests = Files.list(Path.of("src/test/java"))) {
            files = tests.map(t -> t.getFileName().toString()).sorted().collect(Collectors.toList());
        }
        for (String file : files) {
            if (!readme.contains("- `" + file.replace(".java", "") + "`:")) {
                fault("README.md does not tell of the test " + file);
            }
        }
    }

    public static void main(String[] args) throws IOException, ReflectiveOperationException {
        List<String> lines = Files.readAllLines(Path.of("README.md"));
        String readme = String.join("\n", lines);
        runExample(example(lines));
        namesEachCall(readme);
        namesEachTest(readme);
        System.out.println(wrong == 0 ? "README.md tells the truth" : wrong + " faults in README.md");
        if (wrong != 0) {
            System.exit(1);
        }
    }
}
