import java.io.ByteArrayOutputStream;
import java.io.IOException;
import java.io.PrintStream;
import java.lang.reflect.Field;
import java.lang.reflect.Method;
import java.lang.reflect.Modifier;
import java.net.URL;
import java.net.URLClassLoader;
import java.nio.file.DirectoryStream;
import java.nio.file.Files;
import java.nio.file.Path;
import javax.tools.ToolProvider;

/**
 * README.md: its example compiles and prints what the page says, and each call, constant and test is told.
 * It is run in the project's folder, as .ci/run does.
 */
public final class ReadmeTest {
    private static final Path PAGE = Path.of("README.md");
    private static final Path TESTS = Path.of("src", "test", "java");
    private static final Checks CHECKS = new Checks();

    public static void main(String[] args) throws IOException, ReflectiveOperationException {
        String page = Files.readString(PAGE);
        example(block(page, "java"), block(page, "text"));
        calls(page);
        constants(page);
        tests(page);
        CHECKS.end();
    }

    private static void example(String program, String told) throws IOException, ReflectiveOperationException {
        Path folder = Files.createTempDirectory("readme");
        Path source = folder.resolve("Example.java");
        Files.writeString(source, program);
        int compiled = ToolProvider.getSystemJavaCompiler().run(null, null, null,
                "-cp", System.getProperty("java.class.path"), "-d", folder.toString(), source.toString());
        CHECKS.due("javac of the example", 0, compiled);
        if (compiled == 0) {
            String printed = printedBy(folder);
            CHECKS.due("the example prints\n" + printed + "and README.md tells\n" + told + "this", 1,
                    printed.equals(told) ? 1 : 0);
        }
        try (DirectoryStream<Path> files = Files.newDirectoryStream(folder)) {
            for (Path file : files) {
                Files.delete(file);
            }
        }
        Files.delete(folder);
    }

    private static String printedBy(Path folder) throws IOException, ReflectiveOperationException {
        PrintStream console = System.out;
        ByteArrayOutputStream printed = new ByteArrayOutputStream();
        try (URLClassLoader loader = new URLClassLoader(new URL[] {folder.toUri().toURL()})) {
            System.setOut(new PrintStream(printed, true));
            loader.loadClass("Example").getMethod("main", String[].class).invoke(null, (Object) new String[0]);
        } finally {
            System.setOut(console);
        }
        return printed.toString().replace(System.lineSeparator(), "\n");
    }

    /** The first block of a language, each line with its end; empty, if there is none. */
    private static String block(String page, String language) {
        String fence = "\n```" + language + "\n";
        int from = page.indexOf(fence);
        int to = page.indexOf("\n```\n", from + fence.length());
        boolean isThere = from >= 0 && to >= 0;
        CHECKS.due("a block of " + language, 1, isThere ? 1 : 0);
        return isThere ? page.substring(from + fence.length(), to + 1) : "";
    }

    private static void calls(String page) {
        for (Method m : RumourDesk.class.getDeclaredMethods()) {
            if (Modifier.isPublic(m.getModifiers())) {
                told(page, "`" + m.getName() + "`");
            }
        }
    }

    private static void constants(String page) throws IllegalAccessException {
        for (Field f : RumourDesk.class.getDeclaredFields()) {
            if (Modifier.isPublic(f.getModifiers())) {
                told(page, "`" + f.getName() + "` " + f.getInt(null) + " |");
            }
        }
    }

    private static void tests(String page) throws IOException {
        int number = 0;
        try (DirectoryStream<Path> files = Files.newDirectoryStream(TESTS, "*Test.java")) {
            for (Path file : files) {
                told(page, "\n| " + file.getFileName().toString().replace(".java", "") + " | ");
                number++;
            }
        }
        CHECKS.due("tests in the table", number, page.split("\n\\| [A-Za-z]+Test \\| ", -1).length - 1);
    }

    private static void told(String page, String words) {
        CHECKS.due("README.md tells " + words, 1, page.contains(words) ? 1 : 0);
    }
}
