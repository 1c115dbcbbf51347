import java.io.IOException;
import java.io.UncheckedIOException;
import java.lang.reflect.Method;
import java.lang.reflect.Modifier;
import java.net.URL;
import java.net.URLClassLoader;
import java.nio.file.Files;
import java.nio.file.Path;
import java.util.Comparator;
import java.util.List;
import java.util.regex.Matcher;
import java.util.regex.Pattern;
import java.util.stream.Stream;
import javax.tools.ToolProvider;

/** The example of README.md answers what it says, and calls all methods; the one command is told. */
public final class ReadmeTest {
    private static final Pattern TOLD = Pattern.compile("(?m)^(planner\\..*);\\s*// -> ([^:\\n]*)(?::.*)?$");

    public static void main(String[] args) throws IOException, ReflectiveOperationException {
        String readme = Files.readString(Path.of("README.md"));
        Matcher block = Pattern.compile("(?s)```java\\n(.*?)```").matcher(readme);
        Checks.same("an example", true, block.find());
        String example = block.group(1);
        for (Method method : BindingPlanner.class.getDeclaredMethods()) {
            if (Modifier.isPublic(method.getModifiers())) {
                Checks.same(method.getName(), true, example.contains("planner." + method.getName() + "("));
            }
        }
        Checks.same("the one command", true, readme.contains("```\n.ci/run\n```"));
        Path directory = Files.createTempDirectory("readme");
        try {
            run(example, directory);
        } finally {
            remove(directory);
        }
        Checks.finish();
    }

    /** Each line that tells an answer becomes a check. */
    private static void run(String example, Path directory) throws IOException, ReflectiveOperationException {
        String checked = TOLD.matcher(example).replaceAll(line -> Matcher.quoteReplacement("ReadmeTest.check(\""
            + line.group(1).replace("\"", "\\\"") + "\", \"" + line.group(2) + "\", () -> " + line.group(1) + ");"));
        long answers = TOLD.matcher(example).results().count();
        Path source = directory.resolve("Example.java");
        Files.writeString(source, "public class Example { public static void run() {\n" + checked + "\n} }\n");
        int code = ToolProvider.getSystemJavaCompiler().run(null, null, null, "-d", directory.toString(), "-cp",
            System.getProperty("java.class.path"), source.toString());
        Checks.is("the example compiles", 0, code);
        int before = Checks.count();
        try (URLClassLoader loader = new URLClassLoader(new URL[] {directory.toUri().toURL()})) {
            loader.loadClass("Example").getMethod("run").invoke(null);
        }
        Checks.is("answers", answers, Checks.count() - before);
        Checks.same("most calls tell an answer", true, answers > 38);
    }

    /** A call of the example. */
    public interface Call {
        Object answer();
    }

    public static void check(String call, String due, Call answered) {
        Checks.same("README: " + call, due, Checks.answer(answered::answer));
    }

    private static void remove(Path directory) throws IOException {
        try (Stream<Path> files = Files.walk(directory)) {
            List<Path> all = files.sorted(Comparator.reverseOrder()).toList();
            for (Path file : all) {
                Files.delete(file);
            }
        } catch (UncheckedIOException e) {
            throw e.getCause();
        }
    }
}
