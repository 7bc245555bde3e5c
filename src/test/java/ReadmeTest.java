import java.io.ByteArrayOutputStream;
import java.io.IOException;
import java.io.PrintStream;
import java.lang.reflect.Method;
import java.lang.reflect.Modifier;
import java.net.URI;
import java.net.URL;
import java.net.URLClassLoader;
import java.nio.file.Files;
import java.nio.file.Path;
import java.util.List;
import java.util.Map;
import java.util.TreeMap;
import java.util.regex.Matcher;
import java.util.regex.Pattern;
import javax.tools.JavaCompiler;
import javax.tools.SimpleJavaFileObject;
import javax.tools.ToolProvider;

/** README.md: its example does what stands behind it, and its table names what the face throws. */
public final class ReadmeTest {
    private static final Checks checks = new Checks();

    public static void main(String[] args) throws Exception {
        String text = Files.readString(Path.of("README.md"));
        exampleTellsWhatStandsBehindIt(text);
        tableNamesEveryCall(text);
        everyTestIsNamed(text);
        checks.end();
    }

    private static String block(String text, String language) {
        Matcher found = Pattern.compile("(?s)```" + language + "\n(.*?)```").matcher(text);
        checks.holds("a block of " + language, found.find());
        return found.group(1);
    }

    private static void exampleTellsWhatStandsBehindIt(String text) throws Exception {
        Path build = Files.createTempDirectory("readme");
        try {
            checks.holds("the example compiles", compiles(block(text, "java"), build));
            String told = run(build);
            checks.holds("the example telling\n" + told, told.equals(block(text, "text")));
        } finally {
            Files.deleteIfExists(build.resolve("Example.class"));
            Files.delete(build);
        }
    }

    private static boolean compiles(String source, Path build) {
        JavaCompiler compiler = ToolProvider.getSystemJavaCompiler();
        SimpleJavaFileObject file = new SimpleJavaFileObject(URI.create("string:///Example.java"), SimpleJavaFileObject.Kind.SOURCE) {
            @Override
            public CharSequence getCharContent(boolean ignoreEncodingErrors) {
                return source;
            }
        };
        List<String> options = List.of("-d", build.toString(), "-cp", System.getProperty("java.class.path"));
        return compiler.getTask(null, null, null, options, null, List.of(file)).call();
    }

    private static String run(Path build) throws IOException, ReflectiveOperationException {
        ByteArrayOutputStream told = new ByteArrayOutputStream();
        PrintStream screen = System.out;
        try (URLClassLoader loader = new URLClassLoader(new URL[] {build.toUri().toURL()});
                PrintStream caught = new PrintStream(told)) {
            System.setOut(caught);
            loader.loadClass("Example").getMethod("main", String[].class).invoke(null, (Object) new String[0]);
        } finally {
            System.setOut(screen);
        }
        return told.toString().replace("\r\n", "\n");
    }

    private static void tableNamesEveryCall(String text) {
        Map<String, String> rows = new TreeMap<>();
        Matcher row = Pattern.compile("(?m)^\\| `(\\w+)\\(([^)]*)\\)` \\|.*\\| ([^|]*) \\|$").matcher(text);
        while (row.find()) {
            int parameters = row.group(2).isEmpty() ? 0 : row.group(2).split(", ").length;
            rows.put(row.group(1) + " " + parameters, letters(row.group(3)));
        }
        Map<String, String> due = new TreeMap<>();
        for (Method method : LaneCrowds.class.getDeclaredMethods()) {
            if (Modifier.isPublic(method.getModifiers())) {
                StringBuilder thrown = new StringBuilder();
                for (Class<?> one : method.getExceptionTypes()) {
                    thrown.append(one.getSimpleName().replaceAll("Illegal(.).*|(I)ndex.*", "$1$2"));
                }
                due.put(method.getName() + " " + method.getParameterCount(), thrown.toString());
            }
        }
        checks.same("calls in the table", rows.size(), 18);
        checks.holds("the table's exceptions " + rows + " being " + due, rows.equals(due));
    }

    /** What stands ahead of each colon. */
    private static String letters(String thrown) {
        StringBuilder all = new StringBuilder();
        Matcher one = Pattern.compile("([IAS]): ").matcher(thrown);
        while (one.find()) {
            all.append(one.group(1));
        }
        return all.toString();
    }

    private static void everyTestIsNamed(String text) {
        for (String file : Path.of("src/test/java").toFile().list()) {
            String name = file.replace(".java", "");
            checks.holds(name + " in the README", text.contains("`" + name + "`"));
        }
    }
}
