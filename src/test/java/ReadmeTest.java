import java.io.File;
import java.io.IOException;
import java.lang.reflect.InvocationTargetException;
import java.net.URL;
import java.net.URLClassLoader;
import java.nio.file.Files;
import java.nio.file.Path;
import java.util.ArrayList;
import java.util.List;
import java.util.regex.Matcher;
import java.util.regex.Pattern;
import javax.tools.JavaCompiler;
import javax.tools.ToolProvider;

/**
 * Compiles and runs the Java examples of README.md. A call with a comment behind it that begins
 * with a value must answer this value. The class is public for the examples, which another loader
 * loads.
 */
public final class ReadmeTest {
    private static final Check check = new Check();
    private static final Pattern EXAMPLE = Pattern.compile("```java\n(.*?)```", Pattern.DOTALL);
    private static final Pattern ANSWERED =
            Pattern.compile("(x\\.\\w+\\(.*\\)); *// (-?\\d+|true|false|BridgeAuction\\.[A-Z]+)(:.*)?");

    public static void main(String[] args) throws IOException, ReflectiveOperationException {
        List<String> examples = new ArrayList<>();
        Matcher found = EXAMPLE.matcher(Files.readString(Path.of("README.md")));
        while (found.find()) {
            examples.add(found.group(1));
        }
        check.due("README.md has examples", examples.size() >= 2, true);
        Path work = Files.createTempDirectory("readme");
        try {
            for (int i = 0; i < examples.size(); i++) {
                runExample(work, "Example" + i, examples.get(i));
            }
        } finally {
            removeAll(work);
        }
        check.finish();
    }

    /** Called by the compiled examples. */
    public static void due(String what, long got, long want) {
        check.due(what, got, want);
    }

    /** Called by the compiled examples. */
    public static void due(String what, boolean got, boolean want) {
        check.due(what, got, want);
    }

    private static void runExample(Path work, String name, String example)
            throws IOException, ReflectiveOperationException {
        Path file = work.resolve(name + ".java");
        Files.writeString(file, asClass(name, example));
        JavaCompiler compiler = ToolProvider.getSystemJavaCompiler();
        int failed = compiler.run(null, null, null, "-cp", System.getProperty("java.class.path"),
                "-d", work.toString(), file.toString());
        check.due(name + " compiles", failed, 0);
        if (failed != 0) {
            return;
        }
        URL[] places = {work.toUri().toURL()};
        try (URLClassLoader loader = new URLClassLoader(places, ReadmeTest.class.getClassLoader())) {
            loader.loadClass(name).getMethod("go").invoke(null);
        } catch (InvocationTargetException e) {
            check.due(name + " threw " + e.getCause(), true, false);
        }
    }

    private static String asClass(String name, String example) {
        StringBuilder text = new StringBuilder("public class " + name + " {\npublic static void go() {\n");
        int answers = 0;
        for (String line : example.split("\n")) {
            Matcher answered = ANSWERED.matcher(line);
            if (answered.matches()) {
                answers++;
                String call = answered.group(1);
                text.append("ReadmeTest.due(\"" + call + "\", " + call + ", " + answered.group(2) + ");\n");
            } else {
                text.append(line).append("\n");
            }
        }
        check.due(name + " tells answers", answers > 0, true);
        return text.append("}\n}\n").toString();
    }

    private static void removeAll(Path work) {
        File[] files = work.toFile().listFiles();
        if (files != null) {
            for (File file : files) {
                file.delete();
            }
        }
        work.toFile().delete();
    }
}
