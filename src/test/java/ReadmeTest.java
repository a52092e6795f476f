import java.io.ByteArrayOutputStream;
import java.io.IOException;
import java.io.PrintStream;
import java.lang.reflect.Method;
import java.net.URL;
import java.net.URLClassLoader;
import java.nio.file.Files;
import java.nio.file.Path;
import java.util.ArrayList;
import java.util.List;
import java.util.regex.Matcher;
import java.util.regex.Pattern;
import java.util.stream.Stream;
import javax.tools.ToolProvider;

/** README.md: its examples compile and print what it says, and it names every test. It is run from the project's folder. */
public final class ReadmeTest {
    private static final Checks checks = new Checks();

    public static void main(String[] args) throws Exception {
        String readme = Files.readString(Path.of("README.md"));
        Matcher example = Pattern.compile("```java\n(.*?)```", Pattern.DOTALL).matcher(readme);
        int examples = 0;
        while (example.find()) {
            examples++;
            checks.about("README, example " + examples);
            tryExample("Example" + examples, example.group(1));
        }
        checks.about("README");
        checks.holds("there are examples", examples > 0);
        namesEveryTest(readme);
        checks.end();
    }

    /** A line of an example that prints has a comment that begins with what it prints. */
    private static void tryExample(String name, String code) throws Exception {
        List<String> want = new ArrayList<>();
        Matcher printed = Pattern.compile("println\\(.*\\);\\s*// (-?\\d+)").matcher(code);
        while (printed.find()) {
            want.add(printed.group(1));
        }
        checks.holds("each line that prints says what", want.size() > 0 && want.size() == code.split("println", -1).length - 1);
        List<String> got = run(name, code).lines().toList();
        checks.holds("it prints " + want + ", but it prints " + got, got.equals(want));
    }

    private static String run(String name, String code) throws Exception {
        Path folder = Files.createTempDirectory("readme");
        try {
            Path file = folder.resolve(name + ".java");
            Files.writeString(file, "public class " + name + " {\npublic static void main(String[] args) {\n" + code + "}\n}\n");
            int failed = ToolProvider.getSystemJavaCompiler().run(null, null, null, "-cp", System.getProperty("java.class.path"),
                    "-d", folder.toString(), file.toString());
            return failed == 0 ? output(folder, name) : "it does not compile";
        } finally {
            delete(folder);
        }
    }

    private static String output(Path folder, String name) throws Exception {
        ByteArrayOutputStream bytes = new ByteArrayOutputStream();
        PrintStream before = System.out;
        try (URLClassLoader loader = new URLClassLoader(new URL[] {folder.toUri().toURL()})) {
            Method main = loader.loadClass(name).getMethod("main", String[].class);
            System.setOut(new PrintStream(bytes, true));
            main.invoke(null, (Object) new String[0]);
        } finally {
            System.setOut(before);
        }
        return bytes.toString();
    }

    private static void delete(Path folder) throws IOException {
        try (Stream<Path> files = Files.list(folder)) {
            for (Path file : files.toList()) {
                Files.delete(file);
            }
        }
        Files.delete(folder);
    }

    private static void namesEveryTest(String readme) throws IOException {
        try (Stream<Path> files = Files.list(Path.of("src/test/java"))) {
            for (Path file : files.toList()) {
                String name = file.getFileName().toString().replace(".java", "");
                checks.holds("README.md names " + name, !name.endsWith("Test") || readme.contains("`" + name + "`"));
            }
        }
    }
}
