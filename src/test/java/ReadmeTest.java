import java.io.IOException;
import java.nio.file.DirectoryStream;
import java.nio.file.Files;
import java.nio.file.Path;
import java.util.regex.Matcher;
import java.util.regex.Pattern;

/** README.md tells the truth: each answer that it shows is the one given, and each test is in its table. */
public final class ReadmeTest {
    private static final Path README = Path.of("README.md");
    private static final Path TESTS = Path.of("src", "test", "java");

    public static void main(String[] args) throws IOException, ReflectiveOperationException {
        String readme = Files.readString(README);
        showsAnswers(readme);
        namesTests(readme);
        Due.ends();
    }

    private static void showsAnswers(String readme) throws ReflectiveOperationException {
        Matcher text = Pattern.compile("String text = \"([^\"]*)\"").matcher(readme);
        boolean isThere = text.find();
        Due.is("README.md shows a text", isThere ? 1 : 0, 1);
        if (!isThere) {
            return;
        }
        KingDrops drops = new KingDrops();
        Due.types(drops, text.group(1));
        Matcher line = Pattern.compile("(?m)^drops\\.(\\w+)\\(([-\\d, ]*)\\);\\s+// (-?\\d+)\\b").matcher(readme);
        int shown = 0;
        while (line.find()) {
            shown++;
            Due.is(line.group(1) + "(" + line.group(2) + ")", answer(drops, line.group(1), line.group(2)), Long.parseLong(line.group(3)));
        }
        Due.is("README.md shows some answers", shown > 5 ? 1 : 0, 1);
    }

    private static long answer(KingDrops drops, String name, String numbers) throws ReflectiveOperationException {
        String[] parts = numbers.isBlank() ? new String[0] : numbers.split(",");
        Object[] args = new Object[parts.length];
        Class<?>[] types = new Class<?>[parts.length];
        for (int i = 0; i < parts.length; i++) {
            args[i] = Integer.valueOf(parts[i].trim());
            types[i] = int.class;
        }
        return ((Number) KingDrops.class.getMethod(name, types).invoke(drops, args)).longValue();
    }

    private static void namesTests(String readme) throws IOException {
        try (DirectoryStream<Path> tests = Files.newDirectoryStream(TESTS, "*.java")) {
            for (Path test : tests) {
                String name = test.getFileName().toString().replace(".java", "");
                Due.is("README.md names " + name, Pattern.compile("\\b" + name + "\\b").matcher(readme).find() ? 1 : 0, 1);
            }
        }
    }
}
