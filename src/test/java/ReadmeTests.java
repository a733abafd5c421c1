import java.io.ByteArrayOutputStream;
import java.io.PrintStream;
import java.lang.reflect.Field;
import java.lang.reflect.Method;
import java.net.URL;
import java.net.URLClassLoader;
import java.nio.charset.StandardCharsets;
import java.nio.file.Files;
import java.nio.file.Path;
import java.util.regex.Pattern;
import javax.tools.JavaCompiler;
import javax.tools.ToolProvider;

/** What the README says of the class. The first argument is its path. */
public final class ReadmeTests {
    private static final String PROGRAM = "Cellar";
    private static final Path PLACE = Path.of("build", "readme");

    public static void main(String[] args) throws Exception {
        String readme = Files.readString(Path.of(args[0]));
        Checks program = new Checks("the program of the README");
        program(program, readme);
        Checks calls = new Checks("the calls of the README");
        calls(calls, readme);
        int failed = (program.passed() ? 0 : 1) + (calls.passed() ? 0 : 1);
        System.out.println((2 - failed) + " passed, " + failed + " failed");
        if (failed != 0) {
            System.exit(1);
        }
    }

    /** It prints what stands there. */
    private static void program(Checks t, String readme) throws Exception {
        Path source = PLACE.resolve(PROGRAM + ".java");
        Files.createDirectories(PLACE);
        Files.writeString(source, block(readme, "java"));
        JavaCompiler compiler = ToolProvider.getSystemJavaCompiler();
        int compiled = compiler.run(null, null, null, "-cp", System.getProperty("java.class.path"), "-d",
            PLACE.toString(), source.toString());
        t.due("javac", compiled, 0);
        if (compiled == 0) {
            String[] printed = printed().split("\n");
            String[] said = block(readme, "text").split("\n");
            t.due("lines", printed.length, said.length);
            for (int i = 0; i < printed.length && i < said.length; i++) {
                t.that("it prints \"" + printed[i] + "\", the README says \"" + said[i] + "\"", printed[i].equals(said[i]));
            }
        }
    }

    /** The lines of the first block of a kind, or nothing. */
    private static String block(String readme, String kind) {
        int start = readme.indexOf("```" + kind + "\n");
        int end = readme.indexOf("\n```", start + 3);
        return start < 0 || end < 0 ? "" : readme.substring(readme.indexOf('\n', start) + 1, end + 1);
    }

    private static String printed() throws Exception {
        ByteArrayOutputStream all = new ByteArrayOutputStream();
        PrintStream before = System.out;
        URL[] place = {PLACE.toUri().toURL()};
        try (URLClassLoader loader = new URLClassLoader(place); PrintStream out = new PrintStream(all, true, "UTF-8")) {
            Method main = loader.loadClass(PROGRAM).getMethod("main", String[].class);
            System.setOut(out);
            main.invoke(null, (Object) new String[0]);
        } finally {
            System.setOut(before);
        }
        return all.toString(StandardCharsets.UTF_8).replace("\r", "");
    }

    /** Each call stands there with its arguments, and each constant with its value. */
    private static void calls(Checks t, String readme) throws Exception {
        for (Method method : WineFutures.class.getMethods()) {
            if (method.getDeclaringClass() == WineFutures.class) {
                Pattern row = Pattern.compile("^\\| `" + method.getName() + "\\(" + words(method.getParameterCount())
                    + "\\)` \\|", Pattern.MULTILINE);
                t.that(row + " stands there", row.matcher(readme).find());
            }
        }
        for (Field field : WineFutures.class.getFields()) {
            String row = "| `" + field.getName() + "` | " + field.getInt(null) + " |";
            t.that(row + " stands there", readme.contains("\n" + row));
        }
    }

    private static String words(int number) {
        return number == 0 ? "" : "\\w+" + ", \\w+".repeat(number - 1);
    }
}
