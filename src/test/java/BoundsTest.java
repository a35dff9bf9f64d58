import java.io.IOException;
import java.nio.file.Files;
import java.nio.file.Path;
import java.util.LinkedHashMap;
import java.util.List;
import java.util.Map;

/**
 * The boundary cases of all promises, and that no sentence of a promise that names one has been
 * left out: the words behind which the tests stand are looked up in the document itself.
 */
public final class BoundsTest {
    private static final Path DOCUMENT = Path.of("../shared/DOC.md");

    public static void main(String[] args) throws IOException {
        BoundsOfTerms.run();
        BoundsOfText.run();
        BoundsOfWhatThereIs.run();
        BoundsOfActions.run();
        BoundsOfWouldBe.run();
        BoundsOfScripts.run();
        BoundsOfSlots.run();
        BoundsOfArguments.run();
        Map<String, String> sections = sections(Files.readString(DOCUMENT));
        wordsAreOfTheDocument(sections);
        nothingIsLeftOut(sections);
        Due.end("BoundsTest");
    }

    /** The sections by the beginnings of their headings: "Terms", "Promise 1" and so on. */
    private static Map<String, String> sections(String document) {
        Map<String, String> sections = new LinkedHashMap<>();
        for (String section : document.split("\n## ")) {
            int end = section.indexOf('\n');
            String heading = section.substring(0, end).split(":")[0];
            sections.put(heading, section.substring(end + 1).replace("`", ""));
        }
        return sections;
    }

    private static String onOneLine(String text) {
        return text.replaceAll("\\s+", " ").trim();
    }

    private static void wordsAreOfTheDocument(Map<String, String> sections) {
        for (Map.Entry<String, List<String>> tested : Bounds.tested().entrySet()) {
            String section = onOneLine(sections.getOrDefault(tested.getKey(), ""));
            for (String words : tested.getValue()) {
                Due.same("true", "" + section.contains(words),
                        tested.getKey() + " says: " + words + ",");
            }
        }
    }

    private static void nothingIsLeftOut(Map<String, String> sections) {
        for (String heading : sections.keySet()) {
            if (heading.startsWith("Promise ")) {
                List<String> tested = Bounds.tested().getOrDefault(heading, List.of());
                for (String paragraph : sections.get(heading).split("\n\n|\n- ")) {
                    String words = onOneLine(paragraph);
                    Due.same("true", "" + (!namesABound(words) || isTested(words, tested)),
                            heading + " has a test of: " + words + ",");
                }
            }
        }
    }

    /** Each paragraph of a promise that tells a number, a condition or an exception. */
    private static boolean namesABound(String words) {
        return words.startsWith("Throws") || words.matches(".*(\\d|NONE| if ).*")
                && !words.startsWith("int ");
    }

    private static boolean isTested(String paragraph, List<String> tested) {
        for (String words : tested) {
            if (paragraph.contains(words)) {
                return true;
            }
        }
        return false;
    }
}
