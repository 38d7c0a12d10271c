import java.io.ByteArrayOutputStream;
import java.io.IOException;
import java.io.PrintStream;
import java.lang.reflect.Method;
import java.lang.reflect.Modifier;
import java.net.URL;
import java.net.URLClassLoader;
import java.nio.charset.StandardCharsets;
import java.nio.file.Files;
import java.nio.file.Path;
import java.util.Set;
import java.util.TreeSet;
import java.util.regex.Matcher;
import java.util.regex.Pattern;
import javax.tools.JavaCompiler;
import javax.tools.ToolProvider;

/** What README.md says of the class holds: its example is compiled and run, its table is whole. */
public final class ReadmeTest {
    private static final Path FOLDER = Path.of("build", "readme");
    private static final Pattern TABLE_CALL = Pattern.compile("`([a-zA-Z]+)`");

    private ReadmeTest() {
    }

    public static void main(String[] args) throws Exception {
        String readme = Files.readString(Path.of("README.md"));
        exampleIsAsWritten(readme);
        tableNamesEachCallOnce(readme);
        Check.end();
    }

    private static void exampleIsAsWritten(String readme) throws Exception {
        compile(block(readme, "java"));
        Check.sameText("the example printed", printed(), block(readme, "text"));
    }

    private static String block(String readme, String language) {
        String begin = "\n```" + language + "\n";
        int from = readme.indexOf(begin) + begin.length();
        return readme.substring(from, readme.indexOf("```", from));
    }

    private static void compile(String program) throws IOException {
        Files.createDirectories(FOLDER);
        Path file = FOLDER.resolve("Example.java");
        Files.writeString(file, program);
        JavaCompiler compiler = ToolProvider.getSystemJavaCompiler();
        int code = compiler.run(null, null, null, "-encoding", "UTF-8", "-d", FOLDER.toString(),
                "-cp", System.getProperty("java.class.path"), file.toString());
        Check.same("the compiler, asked for the example,", code, 0);
    }

    private static String printed() throws Exception {
        PrintStream usual = System.out;
        ByteArrayOutputStream text = new ByteArrayOutputStream();
        URL[] path = {FOLDER.toUri().toURL()};
        try (URLClassLoader loader = new URLClassLoader(path);
                PrintStream caught = new PrintStream(text, true, StandardCharsets.UTF_8)) {
            Method example = loader.loadClass("Example").getMethod("main", String[].class);
            System.setOut(caught);
            example.invoke(null, (Object) new String[0]);
        } finally {
            System.setOut(usual);
        }
        return text.toString(StandardCharsets.UTF_8).replace(System.lineSeparator(), "\n");
    }

    private static void tableNamesEachCallOnce(String readme) {
        Set<String> named = new TreeSet<>();
        for (String line : readme.split("\n")) {
            if (line.startsWith("|")) {
                Matcher call = TABLE_CALL.matcher(line);
                while (call.find()) {
                    Check.holds("the table names " + call.group(1) + " once", named.add(call.group(1)));
                }
            }
        }
        Check.sameText("the table's calls are", String.join("\n", named), String.join("\n", face()));
    }

    private static Set<String> face() {
        Set<String> names = new TreeSet<>();
        for (Method method : PlateRegister.class.getDeclaredMethods()) {
            if (Modifier.isPublic(method.getModifiers())) {
                names.add(method.getName());
            }
        }
        return names;
    }
}
