import java.io.ByteArrayOutputStream;
import java.io.IOException;
import java.io.PrintStream;
import java.lang.reflect.Method;
import java.lang.reflect.Modifier;
import java.net.URL;
import java.net.URLClassLoader;
import java.nio.charset.StandardCharsets;
import java.nio.file.Files;
import java.nio.file.Path;
import java.util.HashMap;
import java.util.Map;
import java.util.regex.Matcher;
import java.util.regex.Pattern;
import javax.tools.JavaCompiler;
import javax.tools.ToolProvider;

/** README.md says how to use the class: its program prints what stands there, its table has every call. */
public final class ReadmeTest {

    private final Checks checks = new Checks();
    private final String readme;

    private ReadmeTest(String readme) {
        this.readme = readme;
    }

    public static void main(String[] args) throws IOException, ReflectiveOperationException {
        ReadmeTest test = new ReadmeTest(Files.readString(Path.of("README.md")));
        test.program();
        test.table();
        test.tests();
        test.checks.close();
    }

    private void program() throws IOException, ReflectiveOperationException {
        String printed = outputOf(block("java"));
        String due = block("text");
        checks.due("something is due", due.isEmpty(), false);
        checks.due("the program prints what stands there:\n" + printed, printed.equals(due), true);
    }

    private String block(String kind) {
        Matcher found = Pattern.compile("(?s)\n```" + kind + "\n(.*?)```\n").matcher(readme);
        return found.find() ? found.group(1) : "";
    }

    private String outputOf(String program) throws IOException, ReflectiveOperationException {
        Path folder = Files.createTempDirectory("readme");
        Path source = folder.resolve("Example.java");
        Files.writeString(source, program);
        JavaCompiler compiler = ToolProvider.getSystemJavaCompiler();
        int failed = compiler.run(null, null, null, "-d", folder.toString(), "-cp",
            System.getProperty("java.class.path"), source.toString());
        checks.due("the program compiles", failed, 0);
        String printed = failed == 0 ? runIn(folder) : "";
        delete(folder);
        return printed;
    }

    private static String runIn(Path folder) throws IOException, ReflectiveOperationException {
        PrintStream before = System.out;
        ByteArrayOutputStream printed = new ByteArrayOutputStream();
        try (URLClassLoader loader = new URLClassLoader(new URL[] {folder.toUri().toURL()})) {
            System.setOut(new PrintStream(printed, true, StandardCharsets.UTF_8));
            loader.loadClass("Example").getMethod("main", String[].class).invoke(null, (Object) new String[0]);
        } finally {
            System.setOut(before);
        }
        return printed.toString(StandardCharsets.UTF_8).replace("\r\n", "\n");
    }

    private static void delete(Path folder) throws IOException {
        try (var files = Files.list(folder)) {
            for (Path file : files.toList()) {
                Files.delete(file);
            }
        }
        Files.delete(folder);
    }

    private void table() {
        Map<String, Integer> rows = new HashMap<>();
        Matcher row = Pattern.compile("\n\\| `(\\w+)\\((.*?)\\)` \\|").matcher(readme);
        while (row.find()) {
            rows.put(row.group(1), row.group(2).isEmpty() ? 0 : row.group(2).split(",").length);
        }
        int open = 0;
        for (Method method : RingCouncil.class.getDeclaredMethods()) {
            if (Modifier.isPublic(method.getModifiers())) {
                open++;
                checks.due("parameters in the row of " + method.getName(), rows.getOrDefault(method.getName(), -1),
                    method.getParameterCount());
            }
        }
        checks.due("rows of the table", rows.size(), open);
    }

    private void tests() throws IOException {
        try (var files = Files.list(Path.of("src/test/java"))) {
            for (Path file : files.toList()) {
                String name = file.getFileName().toString().replace(".java", "");
                if (name.endsWith("Test")) {
                    checks.due("README.md names " + name, readme.contains("- `" + name + "`"), true);
                }
            }
        }
    }
}
