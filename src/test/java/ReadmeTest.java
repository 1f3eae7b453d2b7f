import java.io.File;
import java.io.IOException;
import java.lang.reflect.InvocationTargetException;
import java.lang.reflect.Method;
import java.lang.reflect.Modifier;
import java.net.URL;
import java.net.URLClassLoader;
import java.nio.file.Files;
import java.nio.file.Path;
import java.util.Comparator;
import java.util.List;
import java.util.regex.Matcher;
import java.util.regex.Pattern;
import java.util.stream.Stream;
import javax.tools.JavaCompiler;
import javax.tools.ToolProvider;

/** README.md held against the class, and against the tests that there are. */
public final class ReadmeTest {
    private static final int LEAST_CALLS = 60;
    /** A call of the example, what keeps its answer, and the answer. */
    private static final Pattern CALL =
        Pattern.compile("^ {8}(int \\w+ = )?((?:help\\.|feed\\(help, ).*\\));\\s+// (NONE|BAD|NO|FULL|-?\\d+)(: .*)?$");
    private static final Pattern SETTING =
        Pattern.compile("\\| (\\d) \\| [^|]+ \\| (\\d+)(?: \\.\\. |, )(\\d+) \\| (\\d+) \\|");

    private static final Check check = new Check();
    private static List<String> readme = List.of();
    private static List<String> example = List.of();
    private static int answered = 0;

    public static void main(String[] args) throws IOException {
        readme = Files.readAllLines(Path.of("README.md"));
        example = block("```java");
        check.runTests(ReadmeTest.class);
        check.end("ReadmeTest");
    }

    /** The calls of the example that is made of README.md come here. */
    public static int answer(String call, int got, int due) {
        answered++;
        check.due(call, due, got);
        return got;
    }

    private static void isTrue(String what, boolean is) {
        check.due(what + ", which", 1, is ? 1 : 0);
    }

    private static List<String> block(String fence) {
        int from = readme.indexOf(fence) + 1;
        int length = readme.subList(from, readme.size()).indexOf("```");
        return from == 0 || length < 0 ? List.of() : readme.subList(from, from + length);
    }

    // ---- the example

    static void theExampleCompilesAsItStands() throws IOException {
        Path made = Files.createTempDirectory("readme");
        try {
            isTrue("the example compiles", compile(made, example));
        } finally {
            remove(made);
        }
    }

    static void theExampleAnswersAsWritten() throws IOException, ReflectiveOperationException {
        Path made = Files.createTempDirectory("readme");
        try {
            List<String> asking = example.stream().map(ReadmeTest::asked).toList();
            if (!compile(made, asking)) {
                isTrue("the example with its answers compiles", false);
                return;
            }
            runExample(made);
            long written = example.stream().filter(line -> CALL.matcher(line).matches()).count();
            check.due("calls that were held against their answers", written, answered);
            isTrue("there are " + answered + " of them", answered >= LEAST_CALLS);
        } finally {
            remove(made);
        }
    }

    static void theExampleTellsTheAnswerOfEachCall() {
        int end = example.indexOf("    }");
        for (String line : example.subList(0, Math.max(0, end))) {
            boolean calls = line.contains("help.") || line.contains("(help");
            isTrue("an answer stands in '" + line + "'", !calls || CALL.matcher(line).matches());
        }
    }

    /** A line of the example, so that it holds the answer against the one that is written. */
    private static String asked(String line) {
        Matcher call = CALL.matcher(line);
        if (!call.matches()) {
            return line;
        }
        String kept = call.group(1) == null ? "" : call.group(1);
        String told = call.group(2).replace("\\", "\\\\").replace("\"", "\\\"");
        String due = Character.isLetter(call.group(3).charAt(0)) ? "MisspellHelp." + call.group(3) : call.group(3);
        return kept + "ReadmeTest.answer(\"" + told + "\", " + call.group(2) + ", " + due + ");";
    }

    private static boolean compile(Path into, List<String> lines) throws IOException {
        JavaCompiler compiler = ToolProvider.getSystemJavaCompiler();
        if (compiler == null) {
            System.out.println("this java has no compiler");
            return false;
        }
        Path source = Files.write(into.resolve("Example.java"), lines);
        String classes = System.getProperty("java.class.path");
        return compiler.run(null, null, null, "-cp", classes, "-d", into.toString(), source.toString()) == 0;
    }

    private static void runExample(Path made) throws IOException, ReflectiveOperationException {
        URL[] places = {made.toUri().toURL()};
        try (URLClassLoader loader = new URLClassLoader(places, ReadmeTest.class.getClassLoader())) {
            Method main = loader.loadClass("Example").getMethod("main", String[].class);
            main.invoke(null, (Object) new String[0]);
        } catch (InvocationTargetException e) {
            isTrue("the example throws " + e.getCause(), false);
        }
    }

    private static void remove(Path made) throws IOException {
        try (Stream<Path> all = Files.walk(made)) {
            all.sorted(Comparator.reverseOrder()).map(Path::toFile).forEach(File::delete);
        }
    }

    // ---- the tables

    static void eachCallIsInTheExampleAndInATable() {
        String calls = String.join("\n", example);
        for (Method method : MisspellHelp.class.getDeclaredMethods()) {
            if (!Modifier.isPublic(method.getModifiers())) {
                continue;
            }
            String name = method.getName();
            isTrue("the example has " + name, calls.contains("help." + name + "("));
            check.due("rows of " + name, 1, countRows(name, method.getParameterCount()));
        }
    }

    private static long countRows(String name, int parameters) {
        String list = parameters == 0 ? "" : "\\w+" + ", \\w+".repeat(parameters - 1);
        Pattern row = Pattern.compile("\\| `" + name + "\\(" + list + "\\)` \\| .+ \\|");
        return readme.stream().filter(line -> row.matcher(line).matches()).count();
    }

    static void theSettingsAreAsInTheirTable() {
        int rows = 0;
        for (String line : readme) {
            Matcher setting = SETTING.matcher(line);
            if (setting.matches()) {
                int what = Integer.parseInt(setting.group(1));
                check.due("the settings in their order", rows, what);
                settingIs(what, Integer.parseInt(setting.group(2)), Integer.parseInt(setting.group(3)),
                    Integer.parseInt(setting.group(4)));
                rows++;
            }
        }
        check.due("settings", 9, rows);
        check.due("no setting behind them", MisspellHelp.BAD, new MisspellHelp().setting(rows, 1));
    }

    private static void settingIs(int what, int least, int most, int first) {
        MisspellHelp x = new MisspellHelp();
        check.due("less of setting " + what, MisspellHelp.BAD, x.setting(what, least - 1));
        check.due("more of setting " + what, MisspellHelp.BAD, x.setting(what, most + 1));
        check.due("setting " + what + " at first", first, x.setting(what, least));
        check.due("the least of setting " + what, least, x.setting(what, most));
        check.due("the most of setting " + what, most, x.setting(what, most));
    }

    // ---- the tests

    static void eachTestIsNamed() throws IOException {
        String tests = String.join("\n", readme.subList(Math.max(0, readme.indexOf("## Tests")), readme.size()));
        try (Stream<Path> files = Files.list(Path.of("src", "test", "java"))) {
            for (Path file : files.toList()) {
                String name = file.getFileName().toString().replace(".java", "");
                isTrue(name + " is named", !name.endsWith("Test") || tests.contains("`" + name + "`"));
            }
        }
        Matcher named = Pattern.compile("`(\\w+Test)`").matcher(tests);
        while (named.find()) {
            isTrue(named.group(1) + " is there", Files.exists(Path.of("src", "test", "java", named.group(1) + ".java")));
        }
        isTrue(".ci/run can be run", Files.isExecutable(Path.of(".ci", "run")) && tests.contains("\n.ci/run\n"));
    }
}
