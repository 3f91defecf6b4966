import java.io.ByteArrayOutputStream;
import java.io.IOException;
import java.io.PrintStream;
import java.lang.reflect.Method;
import java.lang.reflect.Modifier;
import java.net.URL;
import java.net.URLClassLoader;
import java.nio.charset.StandardCharsets;
import java.nio.file.Files;
import java.nio.file.Path;
import java.util.ArrayList;
import java.util.List;
import java.util.TreeMap;
import java.util.regex.Matcher;
import java.util.regex.Pattern;
import javax.tools.JavaCompiler;
import javax.tools.ToolProvider;

/** What README.md says: its program compiles and prints what its comments tell, its table names each call's exceptions. */
public final class ReadmeTest {
    private static final Path PAGE = Path.of("README.md");
    private static final String PROGRAM = "Yours";

    public static void main(String[] args) throws Exception {
        String page = Files.readString(PAGE, StandardCharsets.UTF_8);
        checkProgram(between(page, "```java\n", "```"));
        checkTable(page);
        Checks.end();
    }

    private static String between(String text, String start, String end) {
        int from = text.indexOf(start);
        int to = from < 0 ? -1 : text.indexOf(end, from + start.length());
        if (to < 0) {
            Checks.fail("README.md has no " + start.trim());
            return "";
        }
        return text.substring(from + start.length(), to);
    }

    private static void checkProgram(String program) throws Exception {
        List<String> due = new ArrayList<>();
        Matcher line = Pattern.compile("System\\.out\\.println\\(.*\\);\\s*// ([^:\n]+): ").matcher(program);
        while (line.find()) {
            due.add(line.group(1));
        }
        Checks.due("lines that the program tells are there", due.size() > 10 ? 1 : 0, 1);
        Path folder = Files.createTempDirectory("readme");
        try {
            List<String> got = run(folder, program);
            if (!got.equals(due)) {
                Checks.fail("the program of README.md prints " + got + ", its comments tell " + due);
            }
        } finally {
            remove(folder);
        }
    }

    private static List<String> run(Path folder, String program) throws Exception {
        Path source = folder.resolve(PROGRAM + ".java");
        Files.writeString(source, program, StandardCharsets.UTF_8);
        JavaCompiler compiler = ToolProvider.getSystemJavaCompiler();
        int failed = compiler == null ? -1 : compiler.run(null, null, null, "-d", folder.toString(), "-cp",
            System.getProperty("java.class.path"), source.toString());
        if (failed != 0) {
            Checks.fail("the program of README.md does not compile");
            return List.of();
        }
        PrintStream console = System.out;
        ByteArrayOutputStream printed = new ByteArrayOutputStream();
        try (URLClassLoader loader = new URLClassLoader(new URL[] {folder.toUri().toURL()})) {
            System.setOut(new PrintStream(printed, true, StandardCharsets.UTF_8));
            loader.loadClass(PROGRAM).getMethod("main", String[].class).invoke(null, (Object) new String[0]);
        } finally {
            System.setOut(console);
        }
        return printed.toString(StandardCharsets.UTF_8).lines().toList();
    }

    private static void remove(Path folder) throws IOException {
        try (var files = Files.list(folder)) {
            for (Path file : files.toList()) {
                Files.delete(file);
            }
        }
        Files.delete(folder);
    }

    private static void checkTable(String page) {
        TreeMap<String, List<String>> told = new TreeMap<>();
        Matcher row = Pattern.compile("(?m)^\\| `(\\w+)\\(([^)]*)\\)` \\| [^|]+ \\| ([^|]+) \\|$").matcher(page);
        while (row.find()) {
            List<String> refused = new ArrayList<>();
            Matcher exception = Pattern.compile("`(\\w+Exception)`: ").matcher(row.group(3));
            while (exception.find()) {
                refused.add(exception.group(1));
            }
            int parameters = row.group(2).isEmpty() ? 0 : row.group(2).split(", ").length;
            told.put(row.group(1) + " with " + parameters, refused);
        }
        TreeMap<String, List<String>> due = new TreeMap<>();
        for (Method method : PinnedPantry.class.getDeclaredMethods()) {
            if (Modifier.isPublic(method.getModifiers())) {
                List<String> refused = new ArrayList<>();
                for (Class<?> exception : method.getExceptionTypes()) {
                    refused.add(exception.getSimpleName());
                }
                due.put(method.getName() + " with " + method.getParameterCount(), refused);
            }
        }
        if (!told.equals(due)) {
            Checks.fail("the table of README.md tells " + told + ", due is " + due);
        }
    }
}
