import java.io.IOException;
import java.nio.file.DirectoryStream;
import java.nio.file.Files;
import java.nio.file.Path;
import java.util.ArrayList;
import java.util.Arrays;
import java.util.List;
import java.util.regex.Matcher;
import java.util.regex.Pattern;

/** No sentence of the document is without a test: what Due.holds names in the tests is all that it says. */
public final class SentencesTest {
    private static final Path DOCUMENT = Path.of("..", "shared", "DOC.md");
    private static final Path TESTS = Path.of("src", "test", "java");
    private static final int PROMISES = 25;
    private static final String TEXT = "\"(?:[^\"\\\\]|\\\\.)*\"";
    private static final Pattern HOLDS = Pattern.compile("Due\\.holds\\((\\d+),\\s*(" + TEXT + "(?:\\s*\\+\\s*" + TEXT + ")*)\\)");

    private record Held(int promise, String sentence) {
    }

    public static void main(String[] args) throws IOException {
        List<Held> held = held();
        Due.is("sentences are held", held.isEmpty() ? 0 : 1, 1);
        // Where only the tests of ../shared stand, there is nothing to go through.
        if (Files.exists(DOCUMENT)) {
            String document = Files.readString(DOCUMENT);
            leavesNoneOut(document, held);
            holdsEachPromise(document, held);
        }
        Due.ends();
    }

    private static List<Held> held() throws IOException {
        List<Held> held = new ArrayList<>();
        try (DirectoryStream<Path> tests = Files.newDirectoryStream(TESTS, "Edge*Test.java")) {
            for (Path test : tests) {
                Matcher holds = HOLDS.matcher(Files.readString(test));
                while (holds.find()) {
                    held.add(new Held(Integer.parseInt(holds.group(1)), joined(holds.group(2))));
                }
            }
        }
        return held;
    }

    /** What Java makes of texts with + between them. */
    private static String joined(String texts) {
        StringBuilder joined = new StringBuilder();
        Matcher text = Pattern.compile(TEXT).matcher(texts);
        while (text.find()) {
            joined.append(text.group(), 1, text.group().length() - 1);
        }
        return joined.toString().replace("\\\"", "\"");
    }

    /** From the terms to the last promise, less heads: each letter stands in a sentence that some test names. */
    private static void leavesNoneOut(String document, List<Held> held) {
        int from = document.indexOf("## Terms");
        int to = document.indexOf("## Not promised");
        Due.is("the document has terms and promises", from >= 0 && to > from ? 1 : 0, 1);
        if (from < 0 || to <= from) {
            return;
        }
        String said = document.substring(from, to)
            .replaceAll("(?m)^(##|```|Ahead of the calls).*$", "")
            .replaceAll("======== \\d", "")
            .replaceAll("`[^`]*\\)`:", "")
            .replaceAll("\\s+", " ");
        boolean[] isHeld = new boolean[said.length()];
        for (Held one : held) {
            for (int at = said.indexOf(one.sentence()); at >= 0; at = said.indexOf(one.sentence(), at + 1)) {
                Arrays.fill(isHeld, at, at + one.sentence().length(), true);
            }
        }
        StringBuilder left = new StringBuilder();
        for (int i = 0; i < isHeld.length; i++) {
            left.append(isHeld[i] ? '|' : said.charAt(i));
        }
        for (String part : left.toString().split("\\|+")) {
            boolean isWord = part.chars().anyMatch(Character::isLetterOrDigit);
            Due.is("left without a test: '" + part.trim() + "'", isWord ? 1 : 0, 0);
        }
    }

    /** What stands under a promise's own head is named by a test of that promise. */
    private static void holdsEachPromise(String document, List<Held> held) {
        for (int promise = 1; promise <= PROMISES; promise++) {
            Matcher own = Pattern.compile("## Promise " + promise + ": [^\n]*\\s+`[^`]*`: ([^\n]*)").matcher(document);
            boolean isThere = own.find();
            Due.is("promise " + promise + " stands in the document", isThere ? 1 : 0, 1);
            boolean isNamed = false;
            for (Held one : held) {
                isNamed |= isThere && one.promise() == promise && one.sentence().equals(own.group(1).trim());
            }
            Due.is("a test names promise " + promise + " whole", isNamed ? 1 : 0, 1);
        }
    }
}
