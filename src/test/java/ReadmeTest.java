import java.io.IOException;
import java.net.URL;
import java.net.URLClassLoader;
import java.nio.file.Files;
import java.nio.file.Path;
import java.util.List;
import java.util.TreeSet;
import java.util.regex.Matcher;
import java.util.regex.Pattern;
import java.util.stream.Stream;
import javax.tools.ToolProvider;

/** README.md tells the truth: its calls are made and answered as it says. It is run where README.md lies. */
public final class ReadmeTest {
    private static final Pattern BLOCK = Pattern.compile("```java\n(.*?)```", Pattern.DOTALL);
    private static final Pattern LINE = Pattern.compile("(?:int (\\w+) = )?(.*?); +// (answers|throws) ([^:]+)(:.*)?");
    private static final Pattern SILENT = Pattern.compile("CasebookSteps \\w+ = new CasebookSteps\\(\\);|");
    private static final Pattern TEST = Pattern.compile("`(\\w+Test)`");
    private static final int FEWEST_CALLS = 20;

    public static void main(String[] args) throws IOException, ReflectiveOperationException {
        String readme = Files.readString(Path.of("README.md"));
        Matcher block = BLOCK.matcher(readme);
        Check.same("README.md has calls", block.find(), true);
        List<?> rows = rowsOf(block.group(1));
        for (Object row : rows) {
            String[] parts = (String[]) row;
            Check.same(parts[0], parts[1], parts[2]);
        }
        Check.same("README.md has enough calls", rows.size() >= FEWEST_CALLS, true);
        Check.same("README.md has one block of calls", block.find(), false);
        Check.same("tests that README.md names", namedTests(readme), testsThatAreThere());
        Check.end("ReadmeTest");
    }

    /** What each call of the page answered and what the page says of it. */
    private static List<?> rowsOf(String calls) throws IOException, ReflectiveOperationException {
        Path directory = Files.createTempDirectory("readme");
        Path source = directory.resolve("ReadmeCalls.java");
        Files.writeString(source, sourceOf(calls));
        int code = ToolProvider.getSystemJavaCompiler().run(null, null, null, "-encoding", "UTF-8",
            "-cp", System.getProperty("java.class.path"), "-d", directory.toString(), source.toString());
        Check.same("compiling the calls of README.md", code, 0);
        try (URLClassLoader loader = new URLClassLoader(new URL[] {directory.toUri().toURL()})) {
            return (List<?>) loader.loadClass("ReadmeCalls").getMethod("rows").invoke(null);
        } finally {
            removeAll(directory);
        }
    }

    private static void removeAll(Path directory) throws IOException {
        try (Stream<Path> files = Files.list(directory)) {
            for (Path file : files.toList()) {
                Files.delete(file);
            }
        }
        Files.delete(directory);
    }

    private static String sourceOf(String calls) {
        StringBuilder text = new StringBuilder("public final class ReadmeCalls {\n")
            .append("public static java.util.List<String[]> rows() {\n")
            .append("java.util.List<String[]> rows = new java.util.ArrayList<>();\n");
        for (String line : calls.split("\n")) {
            Matcher told = LINE.matcher(line);
            if (!told.matches()) {
                Check.same("README.md says what comes of '" + line + "'", SILENT.matcher(line).matches(), true);
                text.append(line).append('\n');
            } else if (told.group(3).equals("throws")) {
                text.append("try { ").append(told.group(2)).append(";\n").append(row(line, "\"nothing\"", told))
                    .append("} catch (RuntimeException e) {\n").append(row(line, "e.getClass().getSimpleName()", told))
                    .append("}\n");
            } else if (told.group(1) != null) {
                text.append("int ").append(told.group(1)).append(" = ").append(told.group(2)).append(";\n")
                    .append(row(line, told.group(1), told));
            } else {
                text.append(row(line, told.group(2), told));
            }
        }
        return text.append("return rows;\n}\n}\n").toString();
    }

    /** An answer is compared as text, so that the page needs no suffixes; an exception is told by its name. */
    private static String row(String line, String got, Matcher told) {
        String due = told.group(3).equals("throws") ? quoted(told.group(4)) : told.group(4);
        return "rows.add(new String[] {" + quoted(line) + ", String.valueOf(" + got + "), String.valueOf("
            + due + ")});\n";
    }

    private static String quoted(String text) {
        return '"' + text.replace("\\", "\\\\").replace("\"", "\\\"") + '"';
    }

    private static TreeSet<String> namedTests(String readme) {
        TreeSet<String> names = new TreeSet<>();
        for (Matcher test = TEST.matcher(readme); test.find();) {
            names.add(test.group(1));
        }
        return names;
    }

    private static TreeSet<String> testsThatAreThere() throws IOException {
        TreeSet<String> names = new TreeSet<>();
        try (Stream<Path> files = Files.list(Path.of("src/test/java"))) {
            for (Path file : files.toList()) {
                String name = file.getFileName().toString();
                if (name.endsWith("Test.java")) {
                    names.add(name.substring(0, name.length() - ".java".length()));
                }
            }
        }
        return names;
    }
}
