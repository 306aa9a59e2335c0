import java.io.PrintWriter;
import java.io.StringWriter;
import java.lang.reflect.Field;
import java.lang.reflect.Method;
import java.lang.reflect.Modifier;
import java.nio.file.Files;
import java.nio.file.Path;
import java.util.ArrayList;
import java.util.Arrays;
import java.util.LinkedHashMap;
import java.util.List;
import java.util.Map;
import java.util.Set;
import java.util.TreeSet;
import java.util.regex.Matcher;
import java.util.regex.Pattern;
import java.util.spi.ToolProvider;

/** Those rules of LANGUAGE.md that can be looked up, in the source and in what javac makes of it. */
public final class LanguageTest {
    private static final Pattern HEAD = Pattern.compile("  \\S.*?([\\w$]+)\\(.*\\).*;");
    private static final Pattern CALL = Pattern.compile(".*// (?:Interface)?Method (?:([\\w/$]+)\\.)?\"?([\\w<>]+)\"?:.*");
    private static final Pattern LINE = Pattern.compile("      line (\\d+): \\d+");
    /** Of the library that rule 4 lists; and what every constructor calls. */
    private static final Set<String> LIBRARY = Set.of(
        "java/lang/String.charAt", "java/lang/String.indexOf", "java/lang/Math.max", "java/lang/Math.min",
        "java/lang/Integer.compare", "java/lang/System.arraycopy", "java/lang/Object.<init>");
    /** Each carries its depth and looks at it, but for those that only pass it on. */
    private static final Set<String> RECURSIVE = Set.of(
        "Term.parseProcess", "Term.parsePart", "Term.parsePlace", "Term.parseGuard",
        "State.run", "Teller.tellPlace", "Teller.tellNode");
    private static final Set<String> EXCEPTIONS = Set.of(
        "java/lang/IllegalStateException", "java/lang/IllegalArgumentException", "java/lang/IndexOutOfBoundsException",
        "java/lang/UnsupportedOperationException", "java/util/NoSuchElementException");

    private final Check check = new Check();
    private final Map<String, List<String>> code = new LinkedHashMap<>();

    public static void main(String[] args) throws Exception {
        LanguageTest test = new LanguageTest();
        test.disassemble();
        test.classesInside();
        test.staticFields();
        test.library();
        test.exceptions();
        test.recursion();
        test.sizes();
        test.room();
        test.source();
        test.check.end();
    }

    /** The lines of each method, by its class's own name and its name. */
    private void disassemble() {
        List<String> arguments = new ArrayList<>(List.of("-c", "-l", "-p", "-cp", System.getProperty("java.class.path"), "MovingBoxes"));
        Arrays.stream(MovingBoxes.class.getDeclaredClasses()).map(Class::getName).forEach(arguments::add);
        StringWriter out = new StringWriter();
        PrintWriter writer = new PrintWriter(out);
        ToolProvider.findFirst("javap").orElseThrow().run(writer, writer, arguments.toArray(new String[0]));
        String owner = "";
        List<String> lines = new ArrayList<>();
        for (String line : out.toString().lines().toList()) {
            Matcher head = HEAD.matcher(line);
            if (line.matches(".*class [\\w$]+ \\{")) {
                owner = plain(line.replaceAll(".*class ([\\w$]+) \\{", "$1"));
            } else if (line.startsWith("  static {")) {
                check.due("rule 5: no static initialiser", owner, "");
            } else if (head.matches()) {
                lines = new ArrayList<>();
                String name = plain(head.group(1));
                String key = owner + "." + (name.equals(owner) ? "<init>" : name);
                check.due(key + " is there once", code.put(key, lines) == null, true);
            } else {
                lines.add(line);
            }
        }
        check.due("methods are found", code.containsKey("MovingBoxes.read") && code.containsKey("Explorer.goOver"), true);
    }

    private static String plain(String name) {
        return name.substring(name.lastIndexOf('$') + 1);
    }

    private static boolean isConstructor(String method) {
        return method.endsWith(".<init>");
    }

    /** What a method calls: a method of the class by its key, one of the library by its whole name. */
    private Set<String> callsOf(String method) {
        Set<String> calls = new TreeSet<>();
        for (String line : code.get(method)) {
            Matcher call = CALL.matcher(line);
            if (call.matches()) {
                String owner = call.group(1) == null ? method.substring(0, method.indexOf('.')) : plain(call.group(1));
                calls.add(owner + "." + call.group(2));
            }
        }
        return calls;
    }

    private void classesInside() {
        check.about("rules 2 and 11");
        Class<?>[] inside = MovingBoxes.class.getDeclaredClasses();
        check.due("at most twelve classes", inside.length < 12, true);
        for (Class<?> one : inside) {
            check.due(one + " is static", Modifier.isStatic(one.getModifiers()), true);
            check.due(one + " has few fields", one.getDeclaredFields().length <= 20, true);
            for (Method method : one.getDeclaredMethods()) {
                check.due(method + " takes few", method.getParameterCount() <= 7, true);
            }
        }
        long own = Arrays.stream(MovingBoxes.class.getDeclaredFields()).filter(field -> !Modifier.isStatic(field.getModifiers())).count();
        check.due("the class has few fields", own <= 20, true);
    }

    private void staticFields() {
        check.about("rule 5");
        List<Class<?>> classes = new ArrayList<>(List.of(MovingBoxes.class.getDeclaredClasses()));
        classes.add(MovingBoxes.class);
        for (Class<?> one : classes) {
            for (Field field : one.getDeclaredFields()) {
                if (Modifier.isStatic(field.getModifiers())) {
                    check.due(field + " is final", Modifier.isFinal(field.getModifiers()), true);
                    boolean isPlain = field.getType() == int.class || field.getType() == String.class;
                    check.due(field + " is a plain constant", isPlain, true);
                }
            }
        }
    }

    private void library() {
        check.about("rule 4");
        for (String method : code.keySet()) {
            for (String call : callsOf(method)) {
                String owner = call.substring(0, call.indexOf('.'));
                boolean isException = EXCEPTIONS.contains(owner) && isConstructor(call);
                check.due(method + " calls " + call, code.containsKey(call) || isException || LIBRARY.contains(call), true);
            }
            check.due(method + " joins texts or has a lambda", has(method, "invokedynamic"), false);
        }
    }

    private boolean has(String method, String instruction) {
        return code.get(method).stream().anyMatch(line -> line.matches("\\s+\\d+: " + instruction + "\\b.*"));
    }

    private void exceptions() {
        check.about("rule 6");
        for (String method : code.keySet()) {
            check.due(method + " throws", isConstructor(method) && has(method, "athrow"), false);
            check.due(method + " catches", code.get(method).contains("    Exception table:"), false);
        }
    }

    private void recursion() {
        check.about("rules 8 and 11");
        Set<String> recursive = new TreeSet<>();
        int deepest = 0;
        for (String method : code.keySet()) {
            if (isReached(method, method, new TreeSet<>())) {
                recursive.add(method);
            }
            if (method.startsWith("MovingBoxes.")) {
                deepest = Math.max(deepest, depth(method, new ArrayList<>()));
            }
        }
        check.due("what calls itself", recursive, new TreeSet<>(RECURSIVE));
        check.due("calls go eight deep at most, the library's among them: " + deepest, deepest <= 8, true);
    }

    private boolean isReached(String from, String wanted, Set<String> seen) {
        for (String call : callsOf(from)) {
            if (call.equals(wanted) || code.containsKey(call) && seen.add(call) && isReached(call, wanted, seen)) {
                return true;
            }
        }
        return false;
    }

    /** The longest row of calls that stand open at once, none of them twice. */
    private int depth(String method, List<String> open) {
        if (open.contains(method)) {
            return 0;
        }
        int deepest = 0;
        if (code.containsKey(method)) {
            open.add(method);
            for (String call : callsOf(method)) {
                deepest = Math.max(deepest, depth(call, open));
            }
            open.remove(method);
        }
        return deepest + 1;
    }

    private void sizes() {
        check.about("rule 11");
        for (String method : code.keySet()) {
            int first = Integer.MAX_VALUE;
            int last = 0;
            for (String line : code.get(method)) {
                Matcher number = LINE.matcher(line);
                if (number.matches()) {
                    first = Math.min(first, Integer.parseInt(number.group(1)));
                    last = Math.max(last, Integer.parseInt(number.group(1)));
                }
            }
            check.due(method + " has lines", last > 0, true);
            check.due(method + " is short", isConstructor(method) || last - first < 60, true);
        }
    }

    private void room() {
        check.about("rule 12");
        for (String method : code.keySet()) {
            boolean makesRows = has(method, "newarray") || has(method, "anewarray") || has(method, "multianewarray");
            check.due(method + " makes rows", makesRows && !isConstructor(method), false);
            boolean makesObjects = code.get(method).stream()
                .anyMatch(line -> line.matches("\\s+\\d+: new .*") && !line.matches(".*// class java/.*Exception"));
            check.due(method + " makes objects", makesObjects && !isConstructor(method), false);
        }
    }

    private void source() throws Exception {
        check.about("rules 6, 10 and 13");
        String source = Files.readString(Path.of("src/main/java/MovingBoxes.java"));
        String plain = source.replaceAll("(?s)/\\*.*?\\*/", "").replaceAll("//[^\n]*", "");
        String[] refused = {
            "->", "::", "\\bfinally\\b", "\\bsynchronized\\b", "\\bassert\\b", "\\btry\\b", "\\bcatch\\b", "\\bpackage\\b",
            "\\bnative\\b", "\\bThread\\b", "System\\.(?!arraycopy)", "\\bRandom\\b", "\\bMath\\.\\w+Exact\\b", "\\bHashMap\\b",
            "\\bhashCode\\b", "\\btoString\\b", "\\bvar\\b", "import (?!java\\.util\\.NoSuchElementException;)",
            "\\bfloat\\b", "\\bdouble\\b", "while \\(true\\)", "for \\(;;\\)"};
        for (String pattern : refused) {
            check.due("the source has " + pattern, Pattern.compile(pattern).matcher(plain).find(), false);
        }
        check.due("plain characters", source.chars().allMatch(c -> c == '\n' || c >= 32 && c <= 126), true);
    }
}
