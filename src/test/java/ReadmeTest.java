import java.io.ByteArrayOutputStream;
import java.io.IOException;
import java.io.PrintStream;
import java.net.URL;
import java.net.URLClassLoader;
import java.nio.file.Files;
import java.nio.file.Path;
import java.util.Comparator;
import java.util.stream.Stream;
import javax.tools.ToolProvider;

/** The example in README.md is a program, and prints what is written there. */
public final class ReadmeTest {
    private ReadmeTest() {
    }

    /** What stands between a line that opens a block and the line that closes it. */
    private static String block(String text, String opening) {
        int from = text.indexOf("\n" + opening + "\n") + opening.length() + 2;
        return text.substring(from, text.indexOf("\n```\n", from) + 1);
    }

    private static String printed(Path folder) throws IOException, ReflectiveOperationException {
        ByteArrayOutputStream bytes = new ByteArrayOutputStream();
        PrintStream console = System.out;
        URL[] classes = {folder.toUri().toURL()};
        try (URLClassLoader loader = new URLClassLoader(classes, ReadmeTest.class.getClassLoader());
                PrintStream print = new PrintStream(bytes)) {
            System.setOut(print);
            loader.loadClass("Example").getMethod("main", String[].class).invoke(null, (Object) new String[0]);
        } finally {
            System.setOut(console);
        }
        return bytes.toString().replace(System.lineSeparator(), "\n");
    }

    public static void main(String[] args) throws IOException, ReflectiveOperationException {
        String readme = Files.readString(Path.of("README.md"));
        Path folder = Files.createTempDirectory("readme");
        try {
            Path example = folder.resolve("Example.java");
            Files.writeString(example, block(readme, "```java"));
            int code = ToolProvider.getSystemJavaCompiler().run(null, null, null, "-cp", System.getProperty("java.class.path"),
                    "-d", folder.toString(), example.toString());
            Check.due("the example is compiled", code, 0);
            Check.due("what the example prints", printed(folder), block(readme, "```text"));
        } finally {
            try (Stream<Path> left = Files.walk(folder)) {
                for (Path path : left.sorted(Comparator.reverseOrder()).toList()) {
                    Files.delete(path);
                }
            }
        }
        Check.close();
    }
}
