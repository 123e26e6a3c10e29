import java.io.ByteArrayOutputStream;
import java.io.IOException;
import java.io.PrintStream;
import java.lang.reflect.InvocationTargetException;
import java.net.URL;
import java.net.URLClassLoader;
import java.nio.charset.StandardCharsets;
import java.nio.file.Files;
import java.nio.file.Path;
import javax.tools.ToolProvider;

/** The example of README.md compiles, and prints what README.md says; run from the project's directory. */
public final class ReadmeTest {
    private static final Checks CHECKS = new Checks();

    public static void main(String[] args) throws IOException, ReflectiveOperationException {
        String readme = Files.readString(Path.of("README.md"));
        Path directory = Files.createTempDirectory("readme");
        Path source = directory.resolve("Example.java");
        try {
            Files.writeString(source, block(readme, "java"));
            String path = System.getProperty("java.class.path");
            int result = ToolProvider.getSystemJavaCompiler().run(null, null, null,
                    "-cp", path, "-d", directory.toString(), source.toString());
            CHECKS.due("javac Example.java", result, 0);
            if (result == 0) {
                CHECKS.same("java Example", printed(directory), block(readme, "text"));
            }
        } finally {
            Files.delete(source);
            Files.deleteIfExists(directory.resolve("Example.class"));
            Files.delete(directory);
        }
        CHECKS.end();
    }

    /** What stands in the first block of a kind. */
    private static String block(String readme, String kind) {
        String head = "```" + kind + "\n";
        int from = readme.indexOf(head) + head.length();
        return readme.substring(from, readme.indexOf("```", from));
    }

    private static String printed(Path directory) throws IOException, ReflectiveOperationException {
        PrintStream before = System.out;
        ByteArrayOutputStream bytes = new ByteArrayOutputStream();
        try (URLClassLoader loader = new URLClassLoader(new URL[] {directory.toUri().toURL()});
                PrintStream out = new PrintStream(bytes, true, StandardCharsets.UTF_8)) {
            System.setOut(out);
            loader.loadClass("Example").getMethod("main", String[].class).invoke(null, (Object) new String[0]);
        } catch (InvocationTargetException e) {
            return e.getCause().toString();
        } finally {
            System.setOut(before);
        }
        return bytes.toString(StandardCharsets.UTF_8).replace(System.lineSeparator(), "\n");
    }
}
