import java.io.File;
import java.io.IOException;
import java.lang.reflect.Method;
import java.net.URL;
import java.net.URLClassLoader;
import java.nio.file.Files;
import java.nio.file.Path;
import java.util.ArrayList;
import java.util.List;
import java.util.regex.Matcher;
import java.util.regex.Pattern;
import javax.tools.ToolProvider;

/** Compiles the examples of README.md and holds each call with a number behind it against that number. */
public final class ReadmeTest {
    private static final Pattern ANSWERED = Pattern.compile("(\\w+(?:\\.\\w+)?\\(.*\\));\\s*// (-?\\d+)(?:: .*)?");
    private static final int ANSWERS_LEAST = 50;

    private final StringBuilder methods = new StringBuilder();
    private final StringBuilder examples = new StringBuilder();
    private int answers = 0;

    private ReadmeTest() { }

    public static void main(String[] args) throws IOException, ReflectiveOperationException {
        ReadmeTest test = new ReadmeTest();
        for (List<String> block : blocks(Files.readAllLines(Path.of("README.md")))) {
            test.add(block);
        }
        Check.due("README.md has examples", test.answers >= ANSWERS_LEAST ? 1 : 0, 1);
        test.run();
        Check.end("ReadmeTest");
    }

    private static List<List<String>> blocks(List<String> lines) {
        List<List<String>> found = new ArrayList<>();
        List<String> open = null;
        for (String line : lines) {
            if (line.equals("```java")) {
                open = new ArrayList<>();
                found.add(open);
            } else if (line.equals("```")) {
                open = null;
            } else if (open != null) {
                open.add(line);
            }
        }
        return found;
    }

    /** A block is a method, or an example with objects of its own. */
    private void add(List<String> block) {
        if (block.get(0).startsWith("static ")) {
            methods.append(String.join("\n", block)).append('\n');
            return;
        }
        examples.append("{\n");
        for (String line : block) {
            examples.append(held(line)).append('\n');
        }
        examples.append("}\n");
    }

    private String held(String line) {
        Matcher m = ANSWERED.matcher(line);
        if (!m.matches()) {
            return line;
        }
        answers++;
        String call = m.group(1).replace("\\", "\\\\").replace("\"", "\\\"");
        return "Check.due(\"README: " + call + "\", " + m.group(1) + ", " + m.group(2) + "L);";
    }

    private static void remove(File what) {
        File[] inside = what.listFiles();
        for (File f : inside == null ? new File[0] : inside) {
            remove(f);
        }
        what.delete();
    }

    private void run() throws IOException, ReflectiveOperationException {
        Path dir = Files.createTempDirectory("readme");
        // An example that fails ends the test at once, so what was written is removed on the way out.
        Runtime.getRuntime().addShutdownHook(new Thread(() -> remove(dir.toFile())));
        Path file = dir.resolve("ReadmeExamples.java");
        // Check is seen only by classes of its own loader and package, so it is compiled in once more.
        Files.writeString(file, "final class ReadmeExamples {\n" + methods + "public static void main(String[] a) {\n"
            + examples + "Check.end(\"ReadmeExamples\");\n}\n}\n");
        int code = ToolProvider.getSystemJavaCompiler().run(null, null, null, "-encoding", "UTF-8", "-d", dir.toString(),
            file.toString(), "src/test/java/Check.java", "src/main/java/AgreedLog.java");
        Check.due("the examples compile", code, 0);
        if (code == 0) {
            try (URLClassLoader loader = new URLClassLoader(new URL[] {dir.toUri().toURL()},
                ClassLoader.getPlatformClassLoader())) {
                Method main = loader.loadClass("ReadmeExamples").getMethod("main", String[].class);
                main.setAccessible(true);
                main.invoke(null, (Object) new String[0]);
            }
        }
    }
}
