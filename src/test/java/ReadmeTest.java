import java.lang.invoke.MethodHandles;
import java.lang.reflect.Method;
import java.nio.file.Files;
import java.nio.file.Path;
import java.util.ArrayList;
import java.util.List;
import java.util.regex.Matcher;
import java.util.regex.Pattern;
import javax.tools.ToolProvider;

/** README.md: its examples compile and answer what they say, and it names every call and every finding. */
public final class ReadmeTest {
    private static final Pattern EXAMPLE = Pattern.compile("```java\n(.*?)```", Pattern.DOTALL);
    private static final Pattern ANSWERED = Pattern.compile("(wall\\..*\\)); +// (-?\\d+|[A-Z]+): .*");
    private static final String[] FINDINGS = {"BEYOND", "FULL", "KIND", "NONE", "STATE", "MISSING", "SIZE"};

    public static void main(String[] args) throws Exception {
        String page = Files.readString(Path.of("README.md"));
        everyCallIsNamed(page);
        everyFindingIsNamed(page);
        everyTestIsNamed(page);
        examplesAnswer(page);
        Due.end();
    }

    private static void everyCallIsNamed(String page) {
        for (Method m : Calls.all()) {
            Matcher row = Pattern.compile("\\| `" + m.getName() + "\\(([^)]*)\\)` \\| ").matcher(page);
            boolean isThere = row.find();
            Due.same(m.getName() + " has a row", isThere, true);
            String names = isThere ? row.group(1) : "";
            Due.due("parameters of " + m.getName(), names.isEmpty() ? 0 : names.split(", ").length,
                m.getParameterCount());
        }
    }

    private static void everyFindingIsNamed(String page) {
        for (int i = 0; i < FINDINGS.length; i++) {
            Due.same(FINDINGS[i] + " has a row",
                page.contains("| " + (-1000000001 - i) + " | " + FINDINGS[i] + " | "), true);
        }
    }

    private static void everyTestIsNamed(String page) throws Exception {
        try (var files = Files.list(Path.of("src/test/java"))) {
            for (Path file : (Iterable<Path>) files::iterator) {
                String name = file.getFileName().toString().replace(".java", "");
                if (name.endsWith("Test")) {
                    Due.same(name + " has a row", page.contains("| `" + name + "` | "), true);
                }
            }
        }
    }

    private static void examplesAnswer(String page) throws Exception {
        List<String> bodies = new ArrayList<>();
        Matcher example = EXAMPLE.matcher(page);
        while (example.find()) {
            bodies.add(asTest(example.group(1)));
        }
        Due.due("examples", bodies.size(), 2);
        Path folder = Files.createTempDirectory("readme");
        Path file = folder.resolve("Examples.java");
        Files.writeString(file, "final class Examples {\n static void run() {\n {\n"
            + String.join("}\n{\n", bodies) + "}\n }\n}\n");
        compileAndRun(folder, file);
        for (String name : new String[] {"Examples.java", "Examples.class"}) {
            Files.deleteIfExists(folder.resolve(name));
        }
        Files.deleteIfExists(folder);
    }

    /** A call with an answer behind it is asked for it; every other line stays as it is. */
    private static String asTest(String example) {
        StringBuilder body = new StringBuilder();
        int answered = 0;
        for (String line : example.split("\n")) {
            Matcher m = ANSWERED.matcher(line);
            if (m.matches()) {
                String due = m.group(2).matches("[A-Z]+") ? "Due." + m.group(2) : m.group(2);
                body.append("Due.due(\"README: \" + ").append(quoted(m.group(1))).append(", ")
                    .append(m.group(1)).append(", ").append(due).append(");\n");
                answered++;
            } else {
                Due.same("an answer that can't be read: " + line, line.contains("//"), false);
                body.append(line).append('\n');
            }
        }
        Due.same("an example says what is answered", answered > 0, true);
        return body.toString();
    }

    private static String quoted(String text) {
        return "\"" + text.replace("\\", "\\\\").replace("\"", "\\\"") + "\"";
    }

    private static void compileAndRun(Path folder, Path file) throws Exception {
        int wrong = ToolProvider.getSystemJavaCompiler().run(null, null, null, "-cp",
            System.getProperty("java.class.path"), "-d", folder.toString(), file.toString());
        Due.due("javac of the examples", wrong, 0);
        if (wrong == 0) {
            // Defined beside the tests' own classes, so that it sees Due.
            byte[] bytes = Files.readAllBytes(folder.resolve("Examples.class"));
            Class<?> examples = MethodHandles.lookup().defineClass(bytes);
            examples.getDeclaredMethod("run").invoke(null);
        }
    }
}
