import java.io.File;
import java.io.IOException;
import java.lang.reflect.Method;
import java.net.URL;
import java.net.URLClassLoader;
import java.nio.file.Files;
import java.nio.file.Path;
import java.util.List;
import java.util.regex.Matcher;
import java.util.regex.Pattern;
import javax.tools.ToolProvider;

/** README.md's calls answer as it says: they are compiled and made, one behind another. */
public final class ReadmeTest {
    /** A call, and behind it what it answers, or 'throws' and what. */
    private static final Pattern TOLD = Pattern.compile(
            "(trip\\..*);\\s+// (true|false|-?\\d+|throws \\w+)(:.*)?");
    private static final String NAME = "ReadmeCalls";

    private static int told;

    public static void main(String[] args) throws Exception {
        Path folder = Files.createTempDirectory("readme");
        Path source = folder.resolve(NAME + ".java");
        try {
            Files.writeString(source, program(Files.readAllLines(Path.of("README.md"))));
            int compiled = ToolProvider.getSystemJavaCompiler().run(null, null, null, "-proc:none",
                    "-cp", System.getProperty("java.class.path"), source.toString());
            Check.same("README.md's calls compile", compiled, 0);
            if (compiled == 0) {
                makeCalls(folder);
            }
        } finally {
            clear(folder.toFile());
        }
        Check.same("there are calls with an answer", told >= 30, true);
        Check.close("ReadmeTest");
    }

    private static String program(List<String> page) {
        StringBuilder text = new StringBuilder("final class " + NAME + " {\n"
                + "    public static void main(String[] args) {\n");
        boolean inside = false;
        for (String line : page) {
            if (line.startsWith("```")) {
                inside = line.equals("```java");
            } else if (inside) {
                text.append(statement(line)).append('\n');
            }
        }
        return text.append("    }\n}\n").toString();
    }

    private static String statement(String line) {
        Matcher found = TOLD.matcher(line.trim());
        if (!found.matches()) {
            return line;
        }
        told++;
        return "ReadmeTest.due(\"" + found.group(1) + "\", \"" + found.group(2)
                + "\", new ReadmeTest.Call() { public Object make() { return " + found.group(1)
                + "; } });";
    }

    /** Public, like due(): the calls are loaded by another loader than the tests. */
    public interface Call {
        Object make();
    }

    public static void due(String call, String due, Call made) {
        String got;
        try {
            got = String.valueOf(made.make());
        } catch (RuntimeException e) {
            got = "throws " + e.getClass().getSimpleName();
        }
        Check.same("README.md, " + call, got, due);
    }

    private static void makeCalls(Path folder) throws Exception {
        URL[] places = {folder.toUri().toURL()};
        Thread thread = Thread.currentThread();
        try (URLClassLoader loader = new URLClassLoader(places, thread.getContextClassLoader())) {
            Method main = loader.loadClass(NAME)
                    .getDeclaredMethod("main", String[].class);
            main.setAccessible(true);
            main.invoke(null, (Object) new String[0]);
        }
    }

    private static void clear(File folder) throws IOException {
        File[] files = folder.listFiles();
        if (files != null) {
            for (File file : files) {
                Files.delete(file.toPath());
            }
        }
        Files.delete(folder.toPath());
    }
}
