import java.io.ByteArrayOutputStream;
import java.io.File;
import java.io.IOException;
import java.io.PrintStream;
import java.lang.reflect.Method;
import java.net.URL;
import java.net.URLClassLoader;
import java.nio.file.Files;
import java.nio.file.Path;
import java.util.regex.Matcher;
import java.util.regex.Pattern;
import javax.tools.ToolProvider;

/** README.md names every call, file and test, and its program prints what stands there. */
public final class ReadmeTest {
    public static void main(String[] args) throws IOException, ReflectiveOperationException {
        Checks checks = new Checks("ReadmeTest");
        String readme = Files.readString(Path.of("README.md"));
        for (Method method : CardFans.class.getMethods()) {
            if (method.getDeclaringClass() == CardFans.class) {
                checks.that("it names " + method.getName(), readme.contains("`" + method.getName() + "("));
            }
        }
        for (File file : new File("src/test/java").listFiles()) {
            String name = file.getName().replace(".java", "");
            checks.that("it names " + name, readme.contains("`" + name + "`"));
        }
        checks.that("it says how the tests are run", readme.contains("\n.ci/run\n"));
        String printed = printedBy(block(readme, "java"));
        checks.that("its program prints " + printed, printed.equals(block(readme, "text")));
        checks.end();
    }

    private static String block(String readme, String language) {
        Matcher found = Pattern.compile("(?s)\n```" + language + "\n(.*?)```\n").matcher(readme);
        return found.find() ? found.group(1) : "no block of " + language;
    }

    private static String printedBy(String program) throws IOException, ReflectiveOperationException {
        Path folder = Files.createTempDirectory("readme");
        Path file = folder.resolve("MyProgram.java");
        Files.writeString(file, program);
        int refused = ToolProvider.getSystemJavaCompiler().run(null, null, null,
            "-cp", System.getProperty("java.class.path"), "-d", folder.toString(), file.toString());
        String printed = refused == 0 ? run(folder) : "does not compile";
        for (File left : folder.toFile().listFiles()) {
            Files.delete(left.toPath());
        }
        Files.delete(folder);
        return printed;
    }

    private static String run(Path folder) throws IOException, ReflectiveOperationException {
        PrintStream before = System.out;
        ByteArrayOutputStream printed = new ByteArrayOutputStream();
        try (URLClassLoader loader = new URLClassLoader(new URL[] {folder.toUri().toURL()})) {
            System.setOut(new PrintStream(printed, true));
            loader.loadClass("MyProgram").getMethod("main", String[].class).invoke(null, (Object) new String[0]);
        } finally {
            System.setOut(before);
        }
        return printed.toString().replace("\r\n", "\n");
    }
}
