import java.io.IOException;
import java.lang.reflect.InvocationTargetException;
import java.net.URL;
import java.net.URLClassLoader;
import java.nio.file.Files;
import java.nio.file.Path;
import java.util.HashSet;
import java.util.LinkedHashMap;
import java.util.List;
import java.util.Map;
import java.util.Set;
import java.util.TreeSet;
import java.util.regex.Matcher;
import java.util.regex.Pattern;
import java.util.stream.Collectors;
import java.util.stream.Stream;
import javax.tools.ToolProvider;

/**
 * README.md cannot come to differ from the program: its examples are compiled and run, and its
 * tables are held against the document and the tests that there are.
 */
public final class ReadmeTest {
    /** Public, as is told(): the examples are loaded by a loader of their own. */
    public interface Call {
        int answer();
    }

    private static final Path README = Path.of("README.md");
    private static final Path DOCUMENT = Path.of("../shared/DOC.md");
    private static final Path TESTS = Path.of("src/test/java");
    private static final Path COMMAND = Path.of(".ci/run");

    private static final String NEW_OBJECT = "TaughtRemotes t = new TaughtRemotes();";
    private static final Pattern TOLD = Pattern.compile(
            "(t\\.(\\w+)\\(.*\\)); +// (?:answers (-?\\d+|NONE)|throws (\\w+Exception)): \\S.*");
    // Lines that lead to an answer and have none of their own.
    private static final Pattern UNTOLD = Pattern.compile(
            "|( {4})*(for \\(.*\\) \\{|\\})|( {4})+t\\.\\w+\\(.*\\);");
    private static final Pattern OF_THE_FACE = Pattern.compile(
            "public int (\\w+)\\(([^)]*)\\)(?: throws ([^;]*))?;");
    private static final Pattern ROW_OF_A_CALL = Pattern.compile(
            "\\| `((\\w+)\\([^`]*\\))` \\| (.+?) \\| ?([\\w, ]*?) ?\\|");

    private static final Pattern ROW_OF_A_COMMAND = Pattern.compile(
            "\\| `((\\d)( \\w){4})` \\| ?(.*?) ?\\| (.+) \\|");

    /** What the examples show, as "name answers", "name NONE" or "name throws X". */
    private static final Set<String> SHOWN = new HashSet<>();

    private ReadmeTest() {
    }

    public static void main(String[] args) throws IOException, ReflectiveOperationException {
        List<String> lines = Files.readAllLines(README);
        run(examples(lines));
        String document = Files.readString(DOCUMENT);
        Map<String, String> thrown = thrownByTheFace(document);
        callsAreThoseOfTheDocument(lines, thrown);
        eachCallIsShown(lines);
        commandsAreThoseOfTheDocument(lines, document.replaceAll("\\s+", " "));
        exceptionsAreTold(lines, thrown);
        testsAreTold(lines);
        Due.end("ReadmeTest");
    }

    /** One call of an example: its answer, or the exception it throws, is the one that is told. */
    public static void told(String want, String what, Call call) {
        String got;
        try {
            got = String.valueOf(call.answer());
        } catch (RuntimeException e) {
            got = e.getClass().getName();
        }
        Due.same(want, got, what);
    }

    // ---- the examples

    /** The statements of all examples, each call that is told put into a call of told(). */
    private static String examples(List<String> lines) {
        StringBuilder code = new StringBuilder("public final class ReadmeExamples {\n")
                .append("public static void run() {\n{\n");
        boolean inside = false;
        for (int i = 0; i < lines.size(); i++) {
            String line = lines.get(i);
            if (line.startsWith("```")) {
                inside = line.equals("```java");
            } else if (inside) {
                code.append(statement(line, "README.md, line " + (i + 1) + ": ")).append('\n');
            }
        }
        return code.append("}\n}\n}\n").toString();
    }

    private static String statement(String line, String where) {
        Matcher m = TOLD.matcher(line);
        if (m.matches()) {
            show(m.group(2), m.group(3), m.group(4));
            return "ReadmeTest.told(\"" + wanted(m.group(3), m.group(4)) + "\", \"" + where
                    + m.group(1).replace("\"", "\\\"") + "\", () -> " + m.group(1) + ");";
        }
        if (line.equals(NEW_OBJECT)) {
            return "}\n{\n" + line;
        }
        Due.same("true", "" + UNTOLD.matcher(line).matches(), where + "\"" + line + "\" in its form");
        return line;
    }

    private static String wanted(String number, String exception) {
        if (number == null) {
            return "java.lang." + exception;
        }
        return number.equals("NONE") ? "" + TaughtRemotes.NONE : number;
    }

    private static void show(String name, String number, String exception) {
        if (number == null) {
            SHOWN.add(name + " throws " + exception);
        } else {
            SHOWN.add(name + (number.equals("NONE") ? " NONE" : " answers"));
        }
    }

    private static void run(String examples) throws IOException, ReflectiveOperationException {
        Path built = Files.createTempDirectory("readme");
        Path source = Files.writeString(built.resolve("ReadmeExamples.java"), examples);
        Path compiled = built.resolve("ReadmeExamples.class");
        try (URLClassLoader loader = new URLClassLoader(new URL[] {built.toUri().toURL()})) {
            int errors = ToolProvider.getSystemJavaCompiler().run(null, null, null,
                    "-cp", System.getProperty("java.class.path"), "-d", built.toString(),
                    source.toString());
            Due.same("0", "" + errors, "the compiler of the examples");
            if (errors == 0) {
                runCompiled(loader);
            }
        } finally {
            Files.deleteIfExists(compiled);
            Files.deleteIfExists(source);
            Files.deleteIfExists(built);
        }
    }

    private static void runCompiled(ClassLoader loader) throws ReflectiveOperationException {
        try {
            loader.loadClass("ReadmeExamples").getMethod("run").invoke(null);
        } catch (InvocationTargetException e) {
            Due.same("nothing", e.getCause().toString(), "README.md: a line without a told answer");
        }
    }

    // ---- the tables

    /** The calls of the document's face, as "name(parameters)", and what each may throw. */
    private static Map<String, String> thrownByTheFace(String document) {
        Map<String, String> thrown = new LinkedHashMap<>();
        Matcher m = OF_THE_FACE.matcher(document);
        while (m.find()) {
            String parameters = m.group(2).replaceAll("\\b(int|long) ", "");
            String exceptions = m.group(3) == null ? "" : m.group(3);
            thrown.put(m.group(1) + "(" + parameters + ")", exceptions);
        }
        return thrown;
    }

    private static void callsAreThoseOfTheDocument(List<String> lines, Map<String, String> thrown) {
        Map<String, String> told = new LinkedHashMap<>();
        for (String line : lines) {
            Matcher m = ROW_OF_A_CALL.matcher(line);
            if (m.matches()) {
                told.put(m.group(1), m.group(4).replaceAll("\\w+", "$0Exception"));
            }
        }
        Due.same(thrown.toString(), told.toString(), "README.md's table of all calls");
    }

    /** Each call has an example for an answer, for NONE where its row has it, for each exception. */
    private static void eachCallIsShown(List<String> lines) {
        for (String line : lines) {
            Matcher m = ROW_OF_A_CALL.matcher(line);
            if (m.matches()) {
                isShown(m.group(2) + " answers");
                if (m.group(3).contains("`NONE`")) {
                    isShown(m.group(2) + " NONE");
                }
                for (String exception : words(m.group(4))) {
                    isShown(m.group(2) + " throws " + exception + "Exception");
                }
            }
        }
    }

    private static void isShown(String what) {
        Due.same("true", "" + SHOWN.contains(what), "README.md shows: " + what + ",");
    }

    private static void commandsAreThoseOfTheDocument(List<String> lines, String document) {
        StringBuilder kinds = new StringBuilder();
        for (String line : lines) {
            Matcher m = ROW_OF_A_COMMAND.matcher(line);
            if (m.matches()) {
                String meaning = m.group(4).isEmpty() ? "succeeds if " + m.group(5) : m.group(4);
                String words = m.group(1) + ": " + meaning;
                Due.same("true", "" + document.contains(words), "the document says " + words + ",");
                kinds.append(m.group(2));
            }
        }
        Due.same("123456789", kinds.toString(), "README.md's table of commands");
    }

    private static void exceptionsAreTold(List<String> lines, Map<String, String> thrown) {
        Set<String> due = new TreeSet<>();
        for (String exceptions : thrown.values()) {
            due.addAll(words(exceptions));
        }
        Set<String> told = new TreeSet<>();
        for (String line : lines) {
            Matcher m = Pattern.compile("- `(\\w+Exception)`: .*").matcher(line);
            if (m.matches()) {
                told.add(m.group(1));
            }
        }
        Due.same(due.toString(), told.toString(), "README.md's list of exceptions");
    }

    private static List<String> words(String list) {
        return Pattern.compile("\\w+").matcher(list).results().map(r -> r.group())
                .collect(Collectors.toList());
    }

    private static void testsAreTold(List<String> lines) throws IOException {
        Set<String> told = new TreeSet<>();
        for (String line : lines) {
            Matcher m = Pattern.compile("\\| (\\w+Test) \\| .+ \\|").matcher(line);
            if (m.matches()) {
                told.add(m.group(1) + ".java");
            }
        }
        try (Stream<Path> files = Files.list(TESTS)) {
            Set<String> due = files.map(f -> f.getFileName().toString())
                    .filter(f -> f.endsWith("Test.java"))
                    .collect(Collectors.toCollection(TreeSet::new));
            Due.same(due.toString(), told.toString(), "README.md's table of tests");
        }
        Due.same("true", "" + lines.contains("    " + COMMAND), "README.md names " + COMMAND + ",");
        Due.same("true", "" + Files.isExecutable(COMMAND), COMMAND + " can be run,");
    }
}
