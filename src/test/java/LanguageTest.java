import java.io.IOException;
import java.nio.file.Files;
import java.nio.file.Path;
import java.util.List;
import java.util.regex.Matcher;
import java.util.regex.Pattern;

/** Those rules of LANGUAGE.md that can be read off the words of the program. */
public final class LanguageTest {
    private static final List<String> FORBIDDEN = List.of(
            "\\bpackage\\b", "->", "::", "\\btry\\b", "\\bcatch\\b", "\\bfinally\\b",
            "\\bassert\\b", "\\bsynchronized\\b", "\\bequals\\s*\\(", "\\bhashCode\\b",
            "\\btoString\\b", "\\bwhile\\s*\\(\\s*true", "for\\s*\\(\\s*;\\s*;", "\\w+Exact\\b",
            "\\bdouble\\b", "\\bfloat\\b", "\\bstatic\\s*\\{", "\\bprotected\\b");
    private static final int MOST_LINES_OF_A_METHOD = 60;

    public static void main(String[] args) throws IOException {
        String program = Files.readString(Path.of("src/main/java/TaughtRemotes.java"));
        String code = program.replaceAll("(?s)/\\*.*?\\*/", "").replaceAll("//[^\n]*", "")
                .replaceAll("\"[^\"\n]*\"", "\"\"");
        for (String word : FORBIDDEN) {
            Due.same("false", "" + Pattern.compile(word).matcher(code).find(), "there is " + word);
        }
        imports(code);
        thrown(code);
        lengths(program);
        Due.same("true", "" + program.chars().allMatch(c -> c >= 10 && c <= 126), "plain signs");
        Due.end("LanguageTest");
    }

    private static void imports(String code) {
        Matcher m = Pattern.compile("import\\s+([\\w.*]+);").matcher(code);
        while (m.find()) {
            boolean allowed = List.of("java.util.Arrays", "java.util.ArrayList", "java.util.List",
                    "java.util.Iterator", "java.util.NoSuchElementException").contains(m.group(1));
            Due.same("true", "" + allowed, "import of " + m.group(1));
        }
    }

    private static void thrown(String code) {
        Matcher m = Pattern.compile("\\bthrow\\b([^;]*);").matcher(code);
        while (m.find()) {
            boolean plain = m.group(1).matches(" new (IllegalState|IllegalArgument|IndexOutOfBounds)"
                    + "Exception\\((\"\")?\\)");
            Due.same("true", "" + plain, "throw" + m.group(1));
        }
    }

    /** A method begins with a line that ends with an opening brace behind four or eight blanks. */
    private static void lengths(String program) {
        int begun = 0;
        String name = "";
        String[] lines = program.split("\n");
        for (int i = 0; i < lines.length; i++) {
            if (lines[i].matches(" {4}( {4})?[A-Za-z].*") && !lines[i].endsWith(";")) {
                begun = i;
                name = lines[i].trim();
            }
            if (lines[i].matches(" {4}( {4})?\\}") && !name.contains("class ")) {
                Due.same("true", "" + (i - begun < MOST_LINES_OF_A_METHOD), "short: " + name);
            }
        }
    }
}
