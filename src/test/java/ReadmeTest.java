import java.io.IOException;
import java.lang.reflect.Field;
import java.lang.reflect.Method;
import java.lang.reflect.Modifier;
import java.net.URL;
import java.net.URLClassLoader;
import java.nio.file.Files;
import java.nio.file.Path;
import java.util.ArrayList;
import java.util.Comparator;
import java.util.List;
import java.util.TreeSet;
import java.util.regex.Matcher;
import java.util.regex.Pattern;
import java.util.stream.Stream;
import javax.tools.ToolProvider;

/** What README.md says is so: its examples answer what stands behind them, its tables have the calls of the face, its
 * constants are the class's, and each test has its place in the list. */
public final class ReadmeTest {
    private static final Pattern EXAMPLE = Pattern.compile("(?s)```java\n(.*?)```");
    private static final Pattern ANSWERED = Pattern.compile("(int \\w+ = )?(x\\.\\w+\\(.*?\\));\\s+// (-?\\d+):.*");
    private static final Pattern ROW = Pattern.compile("(?m)^\\| `(\\w+)\\(([^)]*)\\)` \\| [^|]+ \\| [^|]+ \\|$");
    private static final Pattern CONSTANT = Pattern.compile("`([A-Z]+)`\\s\\((-\\d+)\\)");
    private static final Check check = new Check("ReadmeTest");

    public static void main(String[] args) throws Exception {
        String page = Files.readString(Path.of("README.md"));
        examplesAnswerWhatIsSaid(page);
        callsAreThoseOfTheFace(page);
        constantsAreThoseOfTheClass(page);
        eachTestIsListed(page);
        theScriptCanBeRun();
        check.end();
    }

    /** Called by what the examples are made into. */
    public static long due(String call, long got, long due) {
        check.is("example " + call, got, due);
        return got;
    }

    private static void examplesAnswerWhatIsSaid(String page) throws Exception {
        List<String> examples = new ArrayList<>();
        Matcher example = EXAMPLE.matcher(page);
        int answered = 0;
        while (example.find()) {
            StringBuilder body = new StringBuilder();
            for (String line : example.group(1).split("\n")) {
                Matcher answer = ANSWERED.matcher(line);
                boolean is = answer.matches();
                answered += is ? 1 : 0;
                body.append(is ? asked(answer) : line).append('\n');
            }
            examples.add(body.toString());
        }
        check.is("examples", examples.size(), 2);
        check.is("answers are told in them", answered > 30 ? 1 : 0, 1);
        for (String body : examples) run(body);
    }

    private static String asked(Matcher answer) {
        String kept = answer.group(1) == null ? "" : answer.group(1) + "(int) ";
        return kept + "ReadmeTest.due(\"" + answer.group(2) + "\", " + answer.group(2) + ", " + answer.group(3) + ");";
    }

    private static void run(String body) throws Exception {
        Path out = Files.createTempDirectory("readme");
        Path file = out.resolve("Example.java");
        Files.writeString(file, "public final class Example { public static void main(String[] args) {\n" + body + "} }\n");
        int compiled = ToolProvider.getSystemJavaCompiler().run(null, null, null, "-d", out.toString(), "-cp",
            System.getProperty("java.class.path"), file.toString());
        check.is("the example compiles", compiled, 0);
        if (compiled == 0) {
            try (URLClassLoader loader = new URLClassLoader(new URL[] {out.toUri().toURL()})) {
                loader.loadClass("Example").getMethod("main", String[].class).invoke(null, (Object) new String[0]);
            }
        }
        try (Stream<Path> files = Files.walk(out)) {
            for (Path one : files.sorted(Comparator.reverseOrder()).toList()) Files.delete(one);
        }
    }

    private static void callsAreThoseOfTheFace(String page) {
        TreeSet<String> told = new TreeSet<>();
        Matcher row = ROW.matcher(page);
        while (row.find()) {
            int count = row.group(2).isEmpty() ? 0 : row.group(2).split(",").length;
            check.is("told twice: " + row.group(1), told.add(row.group(1) + " " + count) ? 0 : 1, 0);
        }
        TreeSet<String> there = new TreeSet<>();
        for (Method method : NeededAnswers.class.getDeclaredMethods()) {
            if (Modifier.isPublic(method.getModifiers())) there.add(method.getName() + " " + method.getParameterCount());
        }
        check.is("calls told " + told + ", there are " + there, told.equals(there) ? 1 : 0, 1);
    }

    private static void constantsAreThoseOfTheClass(String page) throws IllegalAccessException {
        TreeSet<String> told = new TreeSet<>();
        Matcher constant = CONSTANT.matcher(page);
        while (constant.find()) told.add(constant.group(1) + " " + constant.group(2));
        TreeSet<String> there = new TreeSet<>();
        for (Field field : NeededAnswers.class.getDeclaredFields()) {
            boolean isInt = Modifier.isPublic(field.getModifiers()) && field.getType() == int.class;
            if (isInt) there.add(field.getName() + " " + field.getInt(null));
        }
        check.is("constants told " + told + ", there are " + there, told.equals(there) ? 1 : 0, 1);
        check.is("LOST is the least long", NeededAnswers.LOST, Long.MIN_VALUE);
        check.is("LOST is told", page.contains("`LOST`, the least long") ? 1 : 0, 1);
    }

    private static void eachTestIsListed(String page) throws IOException {
        String list = page.substring(page.indexOf("## Tests"));
        try (Stream<Path> files = Files.list(Path.of("src/test/java"))) {
            for (Path file : files.toList()) {
                String name = file.getFileName().toString().replace(".java", "");
                check.is(name + " is listed", list.contains("`" + name + "`") ? 1 : 0, 1);
            }
        }
        Matcher named = Pattern.compile("`(\\w+Test)`").matcher(list);
        while (named.find()) {
            boolean there = Files.exists(Path.of("src/test/java", named.group(1) + ".java"));
            check.is(named.group(1) + " is there", there ? 1 : 0, 1);
        }
    }

    private static void theScriptCanBeRun() {
        check.is(".ci/run can be run", Files.isExecutable(Path.of(".ci/run")) ? 1 : 0, 1);
    }
}
