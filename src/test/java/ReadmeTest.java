import java.io.ByteArrayOutputStream;
import java.io.IOException;
import java.io.PrintStream;
import java.lang.reflect.Method;
import java.lang.reflect.Modifier;
import java.net.URL;
import java.net.URLClassLoader;
import java.nio.file.Files;
import java.nio.file.Path;
import java.util.ArrayList;
import java.util.Comparator;
import java.util.List;
import java.util.regex.Matcher;
import java.util.regex.Pattern;
import java.util.stream.Stream;
import javax.tools.ToolProvider;

/** README.md's example prints what stands behind its calls, and its table of calls has every call. */
public final class ReadmeTest {
    private static final Pattern EXAMPLE = Pattern.compile("(?s)```java\n(.*?)```");
    private static final Pattern PRINTED = Pattern.compile("println\\(.*\\); +// (\\S+)");
    private static final Due DUE = new Due();

    public static void main(String[] args) throws IOException, ReflectiveOperationException {
        String readme = Files.readString(Path.of("README.md"));
        example(readme);
        tableOfCalls(readme);
        DUE.end();
    }

    private static void example(String readme) throws IOException, ReflectiveOperationException {
        Matcher found = EXAMPLE.matcher(readme);
        DUE.is("README.md has an example", found.find() ? 1 : 0, 1);
        String source = found.group(1);
        Path folder = Files.createTempDirectory("readme");
        try {
            DUE.alike("what the example prints", printedBy(source, folder), promisedIn(source));
        } finally {
            delete(folder);
        }
    }

    /** A println without an answer behind it counts as one, so that none goes unseen. */
    private static List<String> promisedIn(String source) {
        List<String> answers = new ArrayList<>();
        for (String line : source.split("\n")) {
            Matcher printed = PRINTED.matcher(line);
            if (printed.find()) {
                answers.add(printed.group(1));
            } else if (line.contains("println")) {
                answers.add("no answer behind" + line);
            }
        }
        return answers;
    }

    private static List<String> printedBy(String source, Path folder) throws IOException, ReflectiveOperationException {
        Path file = Files.writeString(folder.resolve("Example.java"), source);
        int code = ToolProvider.getSystemJavaCompiler().run(null, null, null,
            "-cp", System.getProperty("java.class.path"), "-d", folder.toString(), file.toString());
        DUE.is("javac on the example", code, 0);
        ByteArrayOutputStream bytes = new ByteArrayOutputStream();
        PrintStream console = System.out;
        try (URLClassLoader loader = new URLClassLoader(new URL[] {folder.toUri().toURL()}, ReadmeTest.class.getClassLoader())) {
            System.setOut(new PrintStream(bytes, true));
            loader.loadClass("Example").getMethod("main", String[].class).invoke(null, (Object) new String[0]);
        } finally {
            System.setOut(console);
        }
        return bytes.toString().lines().toList();
    }

    private static void delete(Path folder) throws IOException {
        try (Stream<Path> files = Files.walk(folder)) {
            for (Path file : files.sorted(Comparator.reverseOrder()).toList()) {
                Files.delete(file);
            }
        }
    }

    private static void tableOfCalls(String readme) {
        for (Method m : SeparateScreens.class.getDeclaredMethods()) {
            if (Modifier.isPublic(m.getModifiers())) {
                DUE.is("the table has " + m.getName(), readme.contains("| `" + m.getName() + "(") ? 1 : 0, 1);
            }
        }
    }
}
