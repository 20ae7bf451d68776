import java.lang.reflect.InvocationTargetException;
import java.lang.reflect.Method;
import java.lang.reflect.Modifier;
import java.net.URL;
import java.net.URLClassLoader;
import java.nio.file.Files;
import java.nio.file.Path;
import java.util.ArrayList;
import java.util.List;
import java.util.regex.Matcher;
import java.util.regex.Pattern;
import javax.tools.JavaCompiler;
import javax.tools.ToolProvider;

/** The examples of README.md give the answers that stand behind them, and its table of calls is whole. */
public final class ReadmeTest {
    private static final Path README = Path.of("README.md");
    private static final Pattern ANSWER = Pattern.compile("(overlay\\..*\\)); +// (-?\\d+)(:.*)?");
    private static final Pattern THROWN = Pattern.compile("(overlay\\..*\\)); +// throws (\\w+)");
    private static final Pattern ROW = Pattern.compile("\\| `(\\w+)\\(([^)]*)\\)`( \\[u\\])? \\| (\\d+) \\|.*");
    private static int wrong = 0;
    private static int checks = 0;

    /** The examples, once they are compiled, tell their answers to this. */
    public static void due(String line, long got, long want) {
        checks++;
        if (got != want) {
            wrong(line + " answered " + got);
        }
    }

    public static void dueThrown(String line, Class<?> want, Runnable call) {
        checks++;
        Class<?> got = null;
        try {
            call.run();
        } catch (RuntimeException e) {
            got = e.getClass();
        }
        if (got != want) {
            wrong(line + " threw " + got);
        }
    }

    private static void wrong(String text) {
        wrong++;
        System.out.println("README.md: " + text);
    }

    private static String quoted(String line) {
        return "\"" + line.replace("\\", "\\\\").replace("\"", "\\\"") + "\"";
    }

    private static String checked(String line) {
        Matcher answer = ANSWER.matcher(line);
        if (answer.matches()) {
            return "ReadmeTest.due(" + quoted(line) + ", " + answer.group(1) + ", " + answer.group(2) + "L);";
        }
        Matcher thrown = THROWN.matcher(line);
        if (thrown.matches()) {
            return "ReadmeTest.dueThrown(" + quoted(line) + ", " + thrown.group(2) + ".class, () -> "
                    + thrown.group(1) + ");";
        }
        if (line.startsWith("overlay.")) {
            wrong("no answer stands behind " + line);
        }
        return line;
    }

    /** A program with a block for each example, in which every call with an answer is checked. */
    private static String program(List<String> lines) {
        StringBuilder text = new StringBuilder("public class ReadmeExamples { public static void main(String[] a) {\n");
        boolean inside = false;
        for (String line : lines) {
            if (line.equals("```java")) {
                inside = true;
                text.append("{\n");
            } else if (inside && line.equals("```")) {
                inside = false;
                text.append("}\n");
            } else if (inside) {
                text.append(checked(line)).append('\n');
            }
        }
        return text.append("}}\n").toString();
    }

    private static void examples(List<String> lines) throws Exception {
        JavaCompiler compiler = ToolProvider.getSystemJavaCompiler();
        if (compiler == null) {
            wrong("there is no compiler for the examples");
            return;
        }
        Path room = Files.createTempDirectory("readme");
        Path source = room.resolve("ReadmeExamples.java");
        try {
            Files.writeString(source, program(lines));
            int code = compiler.run(null, System.out, System.out, "-d", room.toString(), "-cp",
                    System.getProperty("java.class.path"), source.toString());
            if (code != 0) {
                wrong("the examples do not compile");
                return;
            }
            try (URLClassLoader loader = new URLClassLoader(new URL[] {room.toUri().toURL()})) {
                loader.loadClass("ReadmeExamples").getMethod("main", String[].class)
                        .invoke(null, (Object) new String[0]);
            } catch (InvocationTargetException e) {
                wrong("an example threw " + e.getCause());
            }
        } finally {
            for (String name : new String[] {"ReadmeExamples.java", "ReadmeExamples.class"}) {
                Files.deleteIfExists(room.resolve(name));
            }
            Files.deleteIfExists(room);
        }
    }

    /** The rows name the calls of the document's face, each once, with as many arguments, promise after promise. */
    private static void table(List<String> lines) {
        List<String> undoable = List.of("setPuzzles", "setQuotas", "tick", "join", "admit", "leave", "swarm", "lookup",
                "run");
        List<String> missing = new ArrayList<>();
        for (Method method : QuotaOverlay.class.getDeclaredMethods()) {
            if (Modifier.isPublic(method.getModifiers())) {
                missing.add(method.getName() + " " + method.getParameterCount());
            }
        }
        int promise = 2;
        for (String line : lines) {
            Matcher row = ROW.matcher(line);
            if (row.matches()) {
                checks++;
                String name = row.group(1);
                int arguments = row.group(2).isEmpty() ? 0 : row.group(2).split(",").length;
                boolean marked = row.group(3) != null;
                if (!missing.remove(name + " " + arguments) || marked != undoable.contains(name)
                        || Integer.parseInt(row.group(4)) != promise) {
                    wrong("the row of " + name);
                }
                promise++;
            }
        }
        if (!missing.isEmpty()) {
            wrong("no row for " + missing);
        }
    }

    public static void main(String[] args) throws Exception {
        List<String> lines = Files.readAllLines(README);
        examples(lines);
        table(lines);
        System.out.println("the examples and calls of README.md: " + checks + " checks, " + wrong + " wrong");
        if (wrong != 0 || checks < 50) {
            System.exit(1);
        }
    }
}
