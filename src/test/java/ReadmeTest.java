import java.io.ByteArrayOutputStream;
import java.io.IOException;
import java.io.PrintStream;
import java.lang.reflect.Method;
import java.lang.reflect.Modifier;
import java.net.URL;
import java.net.URLClassLoader;
import java.nio.file.Files;
import java.nio.file.Path;
import java.util.ArrayList;
import java.util.List;
import java.util.Set;
import java.util.TreeSet;
import java.util.regex.Matcher;
import java.util.regex.Pattern;
import javax.tools.ToolProvider;

/** README.md's example, compiled and run: what it prints is what stands behind each call there. */
public final class ReadmeTest {
    private static final Checks CHECKS = new Checks("README.md: ");
    private static final Pattern EXAMPLE = Pattern.compile("(?s)```java\n(public final class Example .*?)```");
    private static final Pattern SHOWN = Pattern.compile("^ *show\\((x\\..*)\\); *// (true|false|-?[0-9]+)");
    private static final Pattern ROW = Pattern.compile("^\\| `([a-z]+)\\(([a-z, ]*)\\)` \\|");

    public static void main(String[] args) throws IOException, ReflectiveOperationException {
        List<String> lines = Files.readAllLines(Path.of("README.md"));
        Matcher example = EXAMPLE.matcher(String.join("\n", lines));
        CHECKS.due("there is an example", example.find(), true);
        if (CHECKS.clean()) {
            holdAgainst(example.group(1).lines().toList(), run(example.group(1)));
        }
        lookAtTable(lines);
        CHECKS.finish();
    }

    private static List<String> run(String source) throws IOException, ReflectiveOperationException {
        Path directory = Files.createTempDirectory("readme");
        Path file = directory.resolve("Example.java");
        Path made = directory.resolve("Example.class");
        try {
            Files.writeString(file, source);
            int code = ToolProvider.getSystemJavaCompiler().run(null, null, null, "-proc:none", "-cp",
                    System.getProperty("java.class.path"), "-d", directory.toString(), file.toString());
            CHECKS.due("the example is compiled", code, 0);
            return code == 0 ? printed(directory) : List.of();
        } finally {
            Files.deleteIfExists(made);
            Files.deleteIfExists(file);
            Files.deleteIfExists(directory);
        }
    }

    private static List<String> printed(Path directory) throws IOException, ReflectiveOperationException {
        PrintStream before = System.out;
        ByteArrayOutputStream bytes = new ByteArrayOutputStream();
        try (URLClassLoader loader = new URLClassLoader(new URL[] {directory.toUri().toURL()},
                ReadmeTest.class.getClassLoader()); PrintStream to = new PrintStream(bytes, true)) {
            System.setOut(to);
            loader.loadClass("Example").getMethod("main", String[].class).invoke(null, (Object) new String[0]);
        } finally {
            System.setOut(before);
        }
        return bytes.toString().lines().toList();
    }

    private static void holdAgainst(List<String> source, List<String> answers) {
        List<String> calls = new ArrayList<>();
        List<String> due = new ArrayList<>();
        for (String line : source) {
            Matcher shown = SHOWN.matcher(line);
            if (shown.find()) {
                calls.add(shown.group(1));
                due.add(shown.group(2));
            }
            CHECKS.due("an answer stands behind" + line, shown.reset().find() == line.contains("show(x."), true);
        }
        CHECKS.due("calls that are shown", answers.size(), due.size());
        for (int i = 0; i < due.size() && i < answers.size(); i++) {
            boolean same = answers.get(i).equals(due.get(i));
            CHECKS.due(calls.get(i) + ", call " + i + ", is " + answers.get(i) + ": as shown", same, true);
        }
    }

    /** The table has a row for each call of the class, with as many arguments as it takes. */
    private static void lookAtTable(List<String> lines) {
        Set<String> rows = new TreeSet<>();
        for (String line : lines) {
            Matcher row = ROW.matcher(line);
            if (row.find()) {
                int arguments = row.group(2).isEmpty() ? 0 : row.group(2).split(",").length;
                CHECKS.due("one row for " + row.group(1), rows.add(row.group(1) + " " + arguments), true);
            }
        }
        Set<String> calls = new TreeSet<>();
        for (Method method : NinetyNights.class.getDeclaredMethods()) {
            if (Modifier.isPublic(method.getModifiers())) {
                calls.add(method.getName() + " " + method.getParameterCount());
            }
        }
        CHECKS.due("rows " + rows + " are the calls " + calls, rows.equals(calls), true);
    }
}
