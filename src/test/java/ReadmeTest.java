import java.io.IOException;
import java.lang.reflect.InvocationTargetException;
import java.net.URL;
import java.net.URLClassLoader;
import java.nio.file.Files;
import java.nio.file.Path;
import java.util.ArrayList;
import java.util.Comparator;
import java.util.List;
import java.util.regex.Matcher;
import java.util.regex.Pattern;
import java.util.stream.Stream;
import javax.tools.ToolProvider;

/** Each example of README.md compiles, and each of its calls answers the number behind "// =". */
public final class ReadmeTest {
    private static final Path README = Path.of("README.md");
    private static final Pattern EXAMPLE = Pattern.compile("```java\n(.*?)```", Pattern.DOTALL);
    private static final Pattern ANSWERED = Pattern.compile("(?m)^\\s*(mural\\.\\w+\\(.*\\)); *// = (-?\\d+)\\b.*$");

    private ReadmeTest() {
    }

    public static void main(String[] args) throws Exception {
        Check.endInTime("ReadmeTest");
        Matcher examples = EXAMPLE.matcher(Files.readString(README));
        int count = 0;
        while (examples.find()) {
            count++;
            checkExample("Example" + count, examples.group(1));
        }
        Check.due("examples of README.md", count, 2);
        Check.end("ReadmeTest");
    }

    private static void checkExample(String name, String code) throws Exception {
        List<Long> got = answersOf(name, ANSWERED.matcher(code).replaceAll("answers.add((long) $1);"));
        Matcher calls = ANSWERED.matcher(code);
        int count = 0;
        while (calls.find() && count < got.size()) {
            Check.due("README.md: " + calls.group(1), got.get(count), Long.parseLong(calls.group(2)));
            count++;
        }
        Check.due("README.md: answers of " + name, got.size(), code.split("// =", -1).length - 1);
        Check.due("README.md: " + name + " has answers", count > 0 ? 1 : 0, 1);
    }

    private static List<Long> answersOf(String name, String body) throws Exception {
        List<Long> answers = new ArrayList<>();
        Path dir = Files.createTempDirectory("readme");
        try {
            compile(dir, name, "public final class " + name
                    + " { public static void run(java.util.List<Long> answers) {\n" + body + "} }\n");
            try (URLClassLoader loader = new URLClassLoader(new URL[] {dir.toUri().toURL()})) {
                loader.loadClass(name).getMethod("run", List.class).invoke(null, answers);
            }
        } catch (InvocationTargetException e) {
            Check.due("README.md: " + name + " threw " + e.getCause(), 1, 0);
        } finally {
            remove(dir);
        }
        return answers;
    }

    private static void compile(Path dir, String name, String source) throws IOException {
        Path file = dir.resolve(name + ".java");
        Files.writeString(file, source);
        int failed = ToolProvider.getSystemJavaCompiler().run(null, null, null, "-cp",
                System.getProperty("java.class.path"), "-d", dir.toString(), file.toString());
        Check.due("README.md: the compiler's answer to " + name, failed, 0);
    }

    private static void remove(Path dir) throws IOException {
        try (Stream<Path> paths = Files.walk(dir)) {
            List<Path> deepestFirst = paths.sorted(Comparator.reverseOrder()).toList();
            for (Path path : deepestFirst) {
                Files.delete(path);
            }
        }
    }
}
