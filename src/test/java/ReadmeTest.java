import java.io.ByteArrayOutputStream;
import java.io.IOException;
import java.io.PrintStream;
import java.net.URL;
import java.net.URLClassLoader;
import java.nio.charset.StandardCharsets;
import java.nio.file.Files;
import java.nio.file.Path;
import javax.tools.ToolProvider;

/** The example in README.md compiles, and prints what is told behind it. */
public final class ReadmeTest {
    public static void main(String[] args) throws Exception {
        String readme = Files.readString(Path.of("README.md"));
        String due = block(readme, "```text\n");
        String got = printed(block(readme, "```java\n"));
        if (due.isEmpty() || !got.equals(due)) {
            System.out.println("README's example printed\n" + got + "due is\n" + due);
            System.exit(1);
        }
        System.out.println("ReadmeTest: " + due.lines().count() + " lines as due");
    }

    private static String block(String readme, String begin) {
        int from = readme.indexOf(begin);
        if (from < 0) throw new IllegalStateException("README.md has no block " + begin);
        return readme.substring(from + begin.length(), readme.indexOf("```", from + begin.length()));
    }

    private static String printed(String example) throws Exception {
        Path folder = Files.createTempDirectory(Files.createDirectories(Path.of("build")), "readme");
        Path source = folder.resolve("Example.java");
        Files.writeString(source, example);
        String here = System.getProperty("java.class.path");
        int refused = ToolProvider.getSystemJavaCompiler().run(null, null, null, "-cp", here, "-d", folder.toString(),
            source.toString());
        if (refused != 0) return "it does not compile\n";
        PrintStream out = System.out;
        ByteArrayOutputStream lines = new ByteArrayOutputStream();
        try (URLClassLoader loader = new URLClassLoader(new URL[] {folder.toUri().toURL()})) {
            System.setOut(new PrintStream(lines, true, StandardCharsets.US_ASCII));
            loader.loadClass("Example").getMethod("main", String[].class).invoke(null, (Object) new String[0]);
        } finally {
            System.setOut(out);
            tidy(folder);
        }
        return lines.toString(StandardCharsets.US_ASCII).replace("\r\n", "\n");
    }

    private static void tidy(Path folder) throws IOException {
        try (var files = Files.list(folder)) {
            for (Path p : files.toList()) Files.delete(p);
        }
        Files.delete(folder);
    }
}
