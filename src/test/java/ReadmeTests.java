import java.io.ByteArrayOutputStream;
import java.io.File;
import java.io.IOException;
import java.io.PrintStream;
import java.net.URL;
import java.net.URLClassLoader;
import java.nio.charset.StandardCharsets;
import java.nio.file.Files;
import java.nio.file.Path;
import javax.tools.JavaCompiler;
import javax.tools.ToolProvider;

/** The example of README.md, as it stands there, must compile and print what README.md tells. */
public final class ReadmeTests {
    private static final Path README = Path.of("README.md");

    private static String block(String page, String kind) {
        String opening = "```" + kind + "\n";
        int from = page.indexOf(opening);
        int to = from < 0 ? -1 : page.indexOf("```", from + opening.length());
        if (to < 0) throw new IllegalStateException("README.md has no block " + kind);
        return page.substring(from + opening.length(), to);
    }

    private static String printed(Path folder) throws ReflectiveOperationException, IOException {
        ByteArrayOutputStream bytes = new ByteArrayOutputStream();
        PrintStream kept = System.out;
        try (URLClassLoader loader = new URLClassLoader(new URL[] {folder.toUri().toURL()})) {
            System.setOut(new PrintStream(bytes, true, StandardCharsets.UTF_8));
            loader.loadClass("Example").getMethod("main", String[].class).invoke(null, (Object) new String[0]);
        } finally {
            System.setOut(kept);
        }
        return bytes.toString(StandardCharsets.UTF_8).replace("\r\n", "\n");
    }

    private static void clear(Path folder) throws IOException {
        File[] files = folder.toFile().listFiles();
        if (files != null) for (File file : files) Files.delete(file.toPath());
        Files.delete(folder);
    }

    public static void main(String[] args) throws ReflectiveOperationException, IOException {
        String page = Files.readString(README);
        Path folder = Files.createTempDirectory("readme");
        String got;
        try {
            Path source = folder.resolve("Example.java");
            Files.writeString(source, block(page, "java"));
            JavaCompiler compiler = ToolProvider.getSystemJavaCompiler();
            int rc = compiler.run(null, null, null, "-cp", System.getProperty("java.class.path"), "-d", folder.toString(), source.toString());
            got = rc == 0 ? printed(folder) : "it does not compile";
        } finally {
            clear(folder);
        }
        if (!got.equals(block(page, "text"))) {
            System.out.println("ReadmeTests: the example printed\n" + got);
            System.exit(1);
        }
        System.out.println("ReadmeTests: the example holds");
    }
}
