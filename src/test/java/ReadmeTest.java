import java.io.ByteArrayOutputStream;
import java.io.IOException;
import java.io.PrintStream;
import java.lang.reflect.InvocationTargetException;
import java.net.URL;
import java.net.URLClassLoader;
import java.nio.charset.StandardCharsets;
import java.nio.file.Files;
import java.nio.file.Path;
import java.util.Comparator;
import java.util.List;
import java.util.stream.Stream;
import javax.tools.ToolProvider;

/** The example in README.md compiles with the class and prints what README.md says. */
public final class ReadmeTest {
    private static final String SOURCE = "src/main/java/UmbrellaSchool.java";

    public static void main(String[] args) throws IOException, ReflectiveOperationException {
        Checks checks = new Checks();
        String page = Files.readString(Path.of("README.md"), StandardCharsets.UTF_8);
        Path work = Files.createTempDirectory("readme");
        try {
            Path example = Files.writeString(work.resolve("Example.java"), block(page, "java"));
            int refused = ToolProvider.getSystemJavaCompiler().run(null, null, null,
                    "--release", "17", "-d", work.toString(), SOURCE, example.toString());
            checks.equal("the compiler", refused, 0);
            if (refused == 0) {
                checks.equal("the example", printedBy(work), block(page, "text"));
            }
        } finally {
            delete(work);
        }
        checks.finish("ReadmeTest");
    }

    /** The first block of the language, without the fences round it. */
    private static String block(String page, String language) {
        String fence = "```" + language + "\n";
        int start = page.indexOf(fence);
        int end = start < 0 ? -1 : page.indexOf("```\n", start + fence.length());
        return end < 0 ? "no block of " + language : page.substring(start + fence.length(), end);
    }

    private static String printedBy(Path classes) throws IOException, ReflectiveOperationException {
        ByteArrayOutputStream printed = new ByteArrayOutputStream();
        PrintStream before = System.out;
        // Without a parent, so that the example meets the class as it was compiled with it.
        try (URLClassLoader loader = new URLClassLoader(new URL[] {classes.toUri().toURL()}, null);
                PrintStream instead = new PrintStream(printed, true, StandardCharsets.UTF_8)) {
            System.setOut(instead);
            loader.loadClass("Example").getMethod("main", String[].class).invoke(null, (Object) new String[0]);
        } catch (InvocationTargetException thrown) {
            return "the example threw " + thrown.getCause();
        } finally {
            System.setOut(before);
        }
        return printed.toString(StandardCharsets.UTF_8).replace(System.lineSeparator(), "\n");
    }

    private static void delete(Path folder) throws IOException {
        try (Stream<Path> found = Files.walk(folder)) {
            List<Path> deepestFirst = found.sorted(Comparator.reverseOrder()).toList();
            for (Path path : deepestFirst) {
                Files.delete(path);
            }
        }
    }
}
