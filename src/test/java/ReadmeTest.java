import java.io.IOException;
import java.lang.reflect.Method;
import java.lang.reflect.Modifier;
import java.net.URL;
import java.net.URLClassLoader;
import java.nio.file.Files;
import java.nio.file.Path;
import java.util.List;
import java.util.TreeSet;
import java.util.regex.Matcher;
import java.util.regex.Pattern;
import java.util.stream.Stream;
import javax.tools.JavaCompiler;
import javax.tools.ToolProvider;

/** README.md tells the use and the tests as they are; it runs at the project's root. */
public final class ReadmeTest {
    private static final Checks checks = new Checks();

    private ReadmeTest() {
    }

    public static void main(String[] args) throws IOException, ReflectiveOperationException {
        String readme = Files.readString(Path.of("README.md"));
        example(firstBlock(readme, "java"));
        tableOfCalls(readme);
        listOfTests(readme);
        checks.same("how to run the tests", firstBlock(readme, "sh"), ".ci/run\n");
        checks.same(".ci/run can be run", Files.isExecutable(Path.of(".ci/run")) ? 1 : 0, 1);
        checks.finish();
    }

    private static String firstBlock(String readme, String language) {
        Matcher block = Pattern.compile("(?s)```" + language + "\n(.*?)```").matcher(readme);
        return block.find() ? block.group(1) : "";
    }

    private static void example(String code) throws IOException, ReflectiveOperationException {
        List<?> rows = compiledAndRun(withRows(code));
        checks.same("the example has answers", rows.size() > 10 ? 1 : 0, 1);
        for (Object row : rows) {
            String[] parts = (String[]) row;
            checks.same("the example's " + parts[0], parts[1], parts[2]);
        }
    }

    /** A call with its answer in a comment becomes a row: the call, what it answers, what is due. */
    private static String withRows(String code) {
        Pattern answered = Pattern.compile("(?m)^( *)(files\\.\\w+\\(.*\\)); *// (-?\\d+): .*$");
        String body = answered.matcher(code).replaceAll("$1rows.add(new String[] {\"$2\", \"\" + $2, \"$3\"});");
        return "public final class ReadmeExample {\n"
            + "public static java.util.List<String[]> rows() {\n"
            + "java.util.List<String[]> rows = new java.util.ArrayList<>();\n"
            + body + "return rows;\n}\n}\n";
    }

    private static List<?> compiledAndRun(String source) throws IOException, ReflectiveOperationException {
        Path directory = Files.createTempDirectory("readme");
        Path file = directory.resolve("ReadmeExample.java");
        Path classFile = directory.resolve("ReadmeExample.class");
        try {
            Files.writeString(file, source);
            JavaCompiler compiler = ToolProvider.getSystemJavaCompiler();
            int code = compiler.run(null, null, null, "-Xlint:all", "-cp", System.getProperty("java.class.path"),
                "-d", directory.toString(), file.toString());
            checks.same("the example compiles", code, 0);
            return code == 0 ? rowsOf(directory) : List.of();
        } finally {
            Files.deleteIfExists(file);
            Files.deleteIfExists(classFile);
            Files.deleteIfExists(directory);
        }
    }

    private static List<?> rowsOf(Path directory) throws IOException, ReflectiveOperationException {
        URL[] places = {directory.toUri().toURL()};
        try (URLClassLoader loader = new URLClassLoader(places, ReadmeTest.class.getClassLoader())) {
            return (List<?>) loader.loadClass("ReadmeExample").getMethod("rows").invoke(null);
        }
    }

    private static void tableOfCalls(String readme) {
        TreeSet<String> due = new TreeSet<>();
        for (Method method : CircuitFiles.class.getDeclaredMethods()) {
            if (Modifier.isPublic(method.getModifiers())) {
                due.add(method.getName() + " of " + method.getParameterCount());
            }
        }
        TreeSet<String> told = new TreeSet<>();
        Matcher row = Pattern.compile("(?m)^\\| `(\\w+)\\((.*?)\\)` \\|").matcher(readme);
        while (row.find()) {
            told.add(row.group(1) + " of " + (row.group(2).isEmpty() ? 0 : row.group(2).split(",").length));
        }
        checks.same("the calls that are told", told.toString(), due.toString());
    }

    private static void listOfTests(String readme) throws IOException {
        TreeSet<String> due = new TreeSet<>();
        try (Stream<Path> files = Files.list(Path.of("src/test/java"))) {
            files.map(file -> file.getFileName().toString().replace(".java", "")).forEach(due::add);
        }
        TreeSet<String> told = new TreeSet<>();
        String tests = readme.substring(readme.indexOf("## Tests"));
        Matcher name = Pattern.compile("`([A-Z]\\w+)`").matcher(tests);
        while (name.find()) {
            told.add(name.group(1));
        }
        checks.same("the tests and their helpers that are told", told.toString(), due.toString());
    }
}
