import java.io.File;
import java.io.IOException;
import java.lang.reflect.Method;
import java.lang.reflect.Modifier;
import java.net.URL;
import java.net.URLClassLoader;
import java.nio.file.Files;
import java.nio.file.Path;
import java.util.ArrayList;
import java.util.List;
import java.util.Set;
import java.util.TreeSet;
import java.util.regex.Matcher;
import java.util.regex.Pattern;
import java.util.stream.Stream;
import javax.tools.JavaCompiler;
import javax.tools.ToolProvider;

/**
 * README.md: the calls that it shows answer as it says, and it tells of every call and of every test.
 *
 * <p>Its Java is compiled as it stands there, but that each call is compared with what is told behind it: an
 * expression, or throws and an exception's name, then a colon if there are words too.
 */
public final class ReadmeTest {
    private static final Pattern SHOWN = Pattern.compile("\\s*(x\\.(\\w+)\\(.*\\));\\s*//\\s*([^:]+)(?::.*)?");
    private static final String LOOP = "while (x.total(3) > 0) {";
    private static final Pattern ROW = Pattern.compile("\\| `(\\w+)\\(([\\w, ]*)\\)` \\|.*");

    private final Due due = new Due();
    private final List<String> lines;
    private final Set<String> shown = new TreeSet<>();

    private ReadmeTest(List<String> lines) {
        this.lines = lines;
    }

    public static void main(String[] args) throws IOException, ReflectiveOperationException {
        ReadmeTest test = new ReadmeTest(Files.readAllLines(Path.of("README.md")));
        test.answers();
        test.everyCall();
        test.everyTest();
        test.due.end("ReadmeTest");
    }

    private void answers() throws IOException, ReflectiveOperationException {
        Path work = Files.createTempDirectory("readme");
        try {
            Path source = work.resolve("ReadmeRuns.java");
            Files.writeString(source, program());
            JavaCompiler javac = ToolProvider.getSystemJavaCompiler();
            int failed = javac.run(null, null, null, "-d", work.toString(), "-cp",
                    System.getProperty("java.class.path"), source.toString());
            due.is("README.md's Java compiles", failed, 0);
            if (failed == 0) {
                compare(work);
            }
        } finally {
            for (File file : work.toFile().listFiles()) {
                Files.delete(file.toPath());
            }
            Files.delete(work);
        }
    }

    private void compare(Path work) throws IOException, ReflectiveOperationException {
        List<Object[]> told = new ArrayList<>();
        try (URLClassLoader loader = new URLClassLoader(new URL[] {work.toUri().toURL()})) {
            loader.loadClass("ReadmeRuns").getMethod("run", List.class).invoke(null, told);
        }
        for (Object[] row : told) {
            int at = (Integer) row[0];
            String call = "README.md, line " + (at + 1) + ": " + lines.get(at).trim() + "\n    answers " + row[1];
            due.is(call, row[1].equals(row[2]), true);
        }
    }

    /** All Java of README.md as one method, which puts down of each call its line, its answer and what is told. */
    private String program() {
        StringBuilder text = new StringBuilder("public final class ReadmeRuns {\n"
                + "public static void run(java.util.List<Object[]> told) {\n");
        boolean inside = false;
        for (int at = 0; at < lines.size(); at++) {
            String line = lines.get(at);
            if (line.equals("```java")) {
                inside = true;
                text.append("{\n");
            } else if (inside && line.equals("```")) {
                inside = false;
                text.append("}\n");
            } else if (inside) {
                text.append(compared(at, line)).append("\n");
            }
        }
        return text.append("}\n}\n").toString();
    }

    private String compared(int at, String line) {
        if (line.equals(LOOP)) {
            // A class that is broken must not keep the test from its end.
            return "for (int guard = 0; guard < 512 && x.total(3) > 0; guard++) {";
        }
        Matcher m = SHOWN.matcher(line);
        if (!m.matches()) {
            due.is("README.md, line " + (at + 1) + ", tells what its call answers", line.contains("x."), false);
            return line;
        }
        shown.add(m.group(2));
        String answer = m.group(3).trim();
        if (!answer.startsWith("throws ")) {
            return row(at, m.group(1), answer);
        }
        String name = "\"" + answer.substring(7) + "\"";
        return "try { " + row(at, m.group(1), name) + " } catch (RuntimeException e) { "
                + row(at, "e.getClass().getSimpleName()", name) + " }";
    }

    private static String row(int at, String got, String want) {
        return "told.add(new Object[] {" + at + ", " + got + ", " + want + "});";
    }

    /** Each call of the face is shown with an answer, and has a row that names its arguments. */
    private void everyCall() {
        Set<String> face = new TreeSet<>();
        Set<String> rows = new TreeSet<>();
        for (Method call : TwinVaults.class.getDeclaredMethods()) {
            if (Modifier.isPublic(call.getModifiers())) {
                face.add(call.getName() + " " + call.getParameterCount());
                due.is("README.md shows " + call.getName(), shown.contains(call.getName()), true);
            }
        }
        for (String line : lines) {
            Matcher m = ROW.matcher(line);
            if (m.matches()) {
                rows.add(m.group(1) + " " + (m.group(2).isEmpty() ? 0 : m.group(2).split(", ").length));
            }
        }
        due.is("README.md has a row for each call: " + rows, rows.equals(face), true);
    }

    private void everyTest() throws IOException {
        String text = String.join("\n", lines);
        due.is("README.md tells how the tests are run", text.contains("\n.ci/run\n"), true);
        try (Stream<Path> files = Files.list(Path.of("src", "test", "java"))) {
            for (Path file : files.sorted().toList()) {
                String name = file.getFileName().toString().replace(".java", "");
                if (name.endsWith("Test")) {
                    due.is("README.md tells of " + name, text.contains("`" + name + "`"), true);
                }
            }
        }
    }
}
