import java.io.IOException;
import java.lang.reflect.InvocationTargetException;
import java.lang.reflect.Method;
import java.lang.reflect.Modifier;
import java.net.URL;
import java.net.URLClassLoader;
import java.nio.file.Files;
import java.nio.file.Path;
import java.util.ArrayList;
import java.util.List;
import java.util.regex.Matcher;
import java.util.regex.Pattern;
import javax.tools.JavaCompiler;
import javax.tools.ToolProvider;

/** The examples of README.md, compiled and run as they stand there: each call must answer what is said behind it. */
public final class ReadmeTest {
    private static final Check CHECK = new Check("ReadmeTest");
    private static final Path README = Path.of("README.md");
    private static final Pattern BLOCK = Pattern.compile("(?ms)^```java\n(.*?)^```$");
    private static final Pattern CALL = Pattern.compile("(x\\.(\\w+)\\(.*?\\)); *(?://(.*))?");
    private static final Pattern ANSWER = Pattern.compile(" (-?\\d+|true|false|NONE|\\w+Exception)(:.*)?");

    private final StringBuilder methods = new StringBuilder();
    private final StringBuilder story = new StringBuilder();
    private final List<String> called = new ArrayList<>();

    public static void main(String[] args) throws Exception {
        String readme = Files.readString(README);
        ReadmeTest test = new ReadmeTest();
        test.read(readme);
        test.namesTheFace();
        namesTheTests(readme);
        run(test.source());
        CHECK.finish();
    }

    public interface Call {
        Object answer();
    }

    /** Asked by the examples, once they are compiled: what is due stands in the words of README.md. */
    public static void due(String call, Call made, String due) {
        String got;
        try {
            Object answer = made.answer();
            got = answer.equals(AbsentRings.NONE) ? "NONE" : answer.toString();
        } catch (RuntimeException e) {
            got = e.getClass().getSimpleName();
        }
        CHECK.same(call, got, due);
    }

    private void read(String readme) {
        Matcher blocks = BLOCK.matcher(readme);
        while (blocks.find()) {
            String block = blocks.group(1);
            if (block.startsWith("static ")) {
                methods.append(block);
            } else {
                block.lines().forEach(this::readLine);
            }
        }
    }

    private void readLine(String line) {
        Matcher call = CALL.matcher(line);
        if (!call.matches()) {
            story.append(line).append('\n');
            return;
        }
        called.add(call.group(2));
        if (call.group(3) == null) {
            CHECK.isTrue(line + " needs no answer", answersNothing(call.group(2)));
            story.append(line).append('\n');
            return;
        }
        Matcher answer = ANSWER.matcher(call.group(3));
        CHECK.isTrue(line + " has an answer", answer.matches());
        if (answer.matches()) {
            String quoted = call.group(1).replace("\\", "\\\\").replace("\"", "\\\"");
            story.append("ReadmeTest.due(\"").append(quoted).append("\", () -> ").append(call.group(1)).append(", \"")
                    .append(answer.group(1)).append("\");\n");
        }
    }

    private static boolean answersNothing(String name) {
        for (Method method : AbsentRings.class.getDeclaredMethods()) {
            if (method.getName().equals(name)) {
                return method.getReturnType() == void.class;
            }
        }
        return false;
    }

    private void namesTheFace() {
        for (Method method : AbsentRings.class.getDeclaredMethods()) {
            if (Modifier.isPublic(method.getModifiers())) {
                CHECK.isTrue(method.getName() + " has an example in README.md", called.contains(method.getName()));
            }
        }
    }

    private static void namesTheTests(String readme) throws IOException {
        try (var files = Files.newDirectoryStream(Path.of("src/test/java"), "*Test.java")) {
            for (Path file : files) {
                String name = file.getFileName().toString().replace(".java", "");
                CHECK.isTrue("README.md names " + name, readme.contains("`" + name + "`"));
            }
        }
    }

    private String source() {
        return "public final class Readme {\n" + methods
                + "public static void main(String[] args) {\n" + story + "}\n}\n";
    }

    private static void run(String source) throws IOException, ReflectiveOperationException {
        Path folder = Files.createTempDirectory("readme");
        try {
            Path file = Files.writeString(folder.resolve("Readme.java"), source);
            if (compiles(file, folder)) {
                runMain(folder);
            }
        } finally {
            Files.deleteIfExists(folder.resolve("Readme.java"));
            Files.deleteIfExists(folder.resolve("Readme.class"));
            Files.deleteIfExists(folder);
        }
    }

    private static boolean compiles(Path file, Path folder) {
        JavaCompiler compiler = ToolProvider.getSystemJavaCompiler();
        CHECK.isTrue("there is a compiler", compiler != null);
        if (compiler == null) {
            return false;
        }
        int exit = compiler.run(null, null, null, "-cp", System.getProperty("java.class.path"), "-d", folder.toString(),
                file.toString());
        CHECK.same("compiling the examples of README.md", exit, 0);
        return exit == 0;
    }

    private static void runMain(Path folder) throws IOException, ReflectiveOperationException {
        try (URLClassLoader loader = new URLClassLoader(new URL[] {folder.toUri().toURL()})) {
            Method main = loader.loadClass("Readme").getMethod("main", String[].class);
            main.invoke(null, (Object) new String[0]);
        } catch (InvocationTargetException e) {
            CHECK.isTrue("the examples of README.md end by " + e.getCause(), false);
        }
    }
}
