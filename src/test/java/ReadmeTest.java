import java.io.IOException;
import java.lang.reflect.Method;
import java.lang.reflect.Modifier;
import java.net.URL;
import java.net.URLClassLoader;
import java.nio.file.Files;
import java.nio.file.Path;
import java.util.ArrayList;
import java.util.List;
import java.util.TreeSet;
import java.util.regex.Matcher;
import java.util.regex.Pattern;
import javax.tools.ToolProvider;

/** The README's example answers what it says, and its table has the calls of the class. */
public final class ReadmeTest {
    private static final Path README = Path.of("README.md");
    private static final Pattern STATEMENT =
            Pattern.compile("(?:int (\\w+) = )?(house\\.[^;]*);\\s*// -> (-?\\d+):.*");
    private static final Pattern ROW = Pattern.compile("\\| `(\\w+)\\(([^)]*)\\)` \\|.*");

    public static void main(String[] args) throws IOException, ReflectiveOperationException {
        List<String> lines = Files.readAllLines(README);
        List<String> calls = new ArrayList<>();
        List<Integer> due = new ArrayList<>();
        String source = programOf(exampleOf(lines), calls, due);
        int[] answers = run(source, calls.size());
        Check check = new Check();
        check.test("the example's answers are as shown", () -> {
            for (int i = 0; i < answers.length; i++) {
                check.same(calls.get(i), answers[i], due.get(i));
            }
        });
        check.test("the table has every call of the class, and no other", () ->
                check.sameWords("calls", callsOfTable(lines), callsOfClass()));
        check.end();
    }

    private static List<String> exampleOf(List<String> lines) {
        List<String> rest = lines.subList(lines.indexOf("```java") + 1, lines.size());
        return rest.subList(0, rest.indexOf("```"));
    }

    /** The example as a class that keeps each answer that is shown. */
    private static String programOf(List<String> example, List<String> calls, List<Integer> due) {
        StringBuilder source = new StringBuilder();
        source.append("public final class Example {\n public static void run(int[] answers) {\n");
        for (String line : example) {
            Matcher shown = STATEMENT.matcher(line);
            if (!shown.matches()) {
                source.append(line).append('\n');
                continue;
            }
            String kept = "answers[" + calls.size() + "]";
            calls.add(shown.group(2));
            due.add(Integer.parseInt(shown.group(3)));
            source.append(kept).append(" = ").append(shown.group(2)).append(";\n");
            if (shown.group(1) != null) {
                source.append("int ").append(shown.group(1)).append(" = ").append(kept).append(";\n");
            }
        }
        return source.append(" }\n}\n").toString();
    }

    private static int[] run(String source, int count)
            throws IOException, ReflectiveOperationException {
        Path place = Files.createTempDirectory("readme");
        Path file = place.resolve("Example.java");
        Path compiled = place.resolve("Example.class");
        try {
            Files.writeString(file, source);
            int code = ToolProvider.getSystemJavaCompiler().run(null, null, null,
                    "-cp", System.getProperty("java.class.path"), file.toString());
            if (code != 0) {
                throw new IllegalStateException("the README's example does not compile");
            }
            int[] answers = new int[count];
            try (URLClassLoader loader = new URLClassLoader(new URL[] {place.toUri().toURL()})) {
                loader.loadClass("Example").getMethod("run", int[].class)
                        .invoke(null, (Object) answers);
            }
            return answers;
        } finally {
            Files.deleteIfExists(compiled);
            Files.deleteIfExists(file);
            Files.deleteIfExists(place);
        }
    }

    private static String callsOfTable(List<String> lines) {
        TreeSet<String> calls = new TreeSet<>();
        for (String line : lines) {
            Matcher row = ROW.matcher(line);
            if (row.matches()) {
                String parameters = row.group(2);
                int count = parameters.isEmpty() ? 0 : parameters.split(",").length;
                calls.add(row.group(1) + "/" + count);
            }
        }
        return String.join(" ", calls);
    }

    private static String callsOfClass() {
        TreeSet<String> calls = new TreeSet<>();
        for (Method method : HeatShares.class.getDeclaredMethods()) {
            if (Modifier.isPublic(method.getModifiers())) {
                calls.add(method.getName() + "/" + method.getParameterCount());
            }
        }
        return String.join(" ", calls);
    }
}
