import java.lang.reflect.Method;
import java.lang.reflect.Modifier;
import java.net.URL;
import java.net.URLClassLoader;
import java.nio.file.Files;
import java.nio.file.Path;
import java.util.ArrayList;
import java.util.Arrays;
import java.util.List;
import java.util.Set;
import java.util.TreeSet;
import java.util.regex.Matcher;
import java.util.regex.Pattern;
import java.util.stream.Collectors;
import java.util.stream.Stream;
import javax.tools.ToolProvider;

/**
 * README.md tells no wrong answer: its examples are compiled and run as they stand there, each call
 * with a remark must answer what the remark begins with, and its tables are held against the face.
 */
public final class ReadmeTest {
    /** A call with a remark: the call, then "throws" (perhaps), then the answer or the exception. */
    private static final Pattern EXAMPLE = Pattern.compile("((?:boxes\\.)?(\\w+)\\(.*\\));\\s*// (throws )?(\\S+).*");
    private static final Pattern BLOCK = Pattern.compile("(?s)```java\n(.*?)```");
    private static final Pattern ROW = Pattern.compile("(?m)^\\| `(\\w+)\\([^|]*\\)` \\| (.*) \\|$");
    private static final Pattern EXCEPTION = Pattern.compile("`(\\w+Exception)`:");

    private final Check check = new Check();
    private final String readme = Files.readString(Path.of("README.md"));
    private final List<String> calls = new ArrayList<>();
    private final List<String> remarks = new ArrayList<>();
    private final Set<String> called = new TreeSet<>();
    private final Set<String> thrown = new TreeSet<>();

    private ReadmeTest() throws Exception {
    }

    public static void main(String[] args) throws Exception {
        ReadmeTest test = new ReadmeTest();
        test.examples();
        test.everyCallIsShown();
        test.tableOfExceptions();
        test.tableOfTests();
        test.check.end();
    }

    private void examples() throws Exception {
        List<?> answers = run(program());
        check.due("as many answers as remarks", answers.size(), remarks.size());
        for (int i = 0; i < answers.size() && i < remarks.size(); i++) {
            check.due("example " + calls.get(i), String.valueOf(answers.get(i)), remarks.get(i));
        }
    }

    /** All examples as one class; helpers are its methods, other blocks are run one behind the other. */
    private String program() {
        StringBuilder helpers = new StringBuilder();
        StringBuilder blocks = new StringBuilder();
        Matcher block = BLOCK.matcher(readme);
        while (block.find()) {
            if (block.group(1).startsWith("static ")) {
                helpers.append(block.group(1));
            } else {
                blocks.append("{\n").append(block.group(1).lines().map(this::asked).collect(Collectors.joining("\n"))).append("\n}\n");
            }
        }
        return "public final class ReadmeExamples {\n"
            + "private static final java.util.List<Object> answers = new java.util.ArrayList<>();\n"
            + "private static void ask(java.util.concurrent.Callable<Object> call) {\n"
            + "try { answers.add(call.call()); }\n"
            + "catch (Exception e) { answers.add(\"throws \" + e.getClass().getSimpleName()); }\n}\n"
            + helpers + "public static java.util.List<Object> run() {\n" + blocks + "return answers;\n}\n}\n";
    }

    /** A line of an example, which asks for the call's answer if there is a remark on it. */
    private String asked(String line) {
        Matcher example = EXAMPLE.matcher(line);
        if (!example.matches()) {
            check.due("a remark that is not understood: " + line, line.contains("// "), false);
            return line;
        }
        // The examples' own helper makes an object that has read a text.
        String method = example.group(2).equals("reading") ? "read" : example.group(2);
        String answer = example.group(4).replaceAll(":$", "");
        boolean isThrown = example.group(3) != null;
        calls.add(example.group(1));
        remarks.add(isThrown ? "throws " + answer : answer);
        (isThrown ? thrown : called).add(isThrown ? method + " " + answer : method);
        return "ask(() -> " + example.group(1) + ");";
    }

    private static List<?> run(String program) throws Exception {
        Path directory = Files.createTempDirectory("readme");
        Path source = Files.writeString(directory.resolve("ReadmeExamples.java"), program);
        try (URLClassLoader loader = new URLClassLoader(new URL[] {directory.toUri().toURL()})) {
            int refused = ToolProvider.getSystemJavaCompiler().run(null, null, null,
                "-cp", System.getProperty("java.class.path"), "-d", directory.toString(), source.toString());
            return refused != 0 ? List.of() : (List<?>) loader.loadClass("ReadmeExamples").getMethod("run").invoke(null);
        } finally {
            try (Stream<Path> files = Files.list(directory)) {
                files.forEach(file -> file.toFile().delete());
            }
            Files.delete(directory);
        }
    }

    private static List<Method> face() {
        return Arrays.stream(MovingBoxes.class.getDeclaredMethods())
            .filter(method -> Modifier.isPublic(method.getModifiers())).collect(Collectors.toList());
    }

    private static Set<String> exceptionsOf(Method method) {
        return Arrays.stream(method.getExceptionTypes()).map(Class::getSimpleName).collect(Collectors.toCollection(TreeSet::new));
    }

    /** There is an example of each call's answer, and of each exception that it throws. */
    private void everyCallIsShown() {
        Set<String> declared = new TreeSet<>();
        for (Method method : face()) {
            check.due("an example of " + method.getName(), called.contains(method.getName()), true);
            exceptionsOf(method).forEach(exception -> declared.add(method.getName() + " " + exception));
        }
        check.due("examples of exceptions", thrown, declared);
    }

    private void tableOfExceptions() {
        Matcher row = ROW.matcher(readme);
        Set<String> rows = new TreeSet<>();
        while (row.find()) {
            Set<String> named = new TreeSet<>();
            EXCEPTION.matcher(row.group(2)).results().forEach(found -> named.add(found.group(1)));
            check.due("the row of " + row.group(1), !named.isEmpty() || row.group(2).equals("nothing"), true);
            rows.add(row.group(1) + " " + named);
        }
        Set<String> declared = new TreeSet<>();
        face().forEach(method -> declared.add(method.getName() + " " + exceptionsOf(method)));
        check.due("the table of what calls throw", rows, declared);
    }

    private void tableOfTests() throws Exception {
        try (Stream<Path> files = Files.list(Path.of("src/test/java"))) {
            files.map(file -> file.getFileName().toString().replace(".java", "")).filter(name -> name.endsWith("Test"))
                .forEach(name -> check.due("the row of " + name, readme.contains("| `" + name + "` |"), true));
        }
    }
}
