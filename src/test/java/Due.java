import java.io.IOException;
import java.nio.file.Files;
import java.nio.file.Path;
import java.util.List;

/** What the tests share: telling each answer that is not the one due, and ending with exit code 1 if there was one. */
final class Due {
    private static final Path DOCUMENT = Path.of("..", "shared", "DOC.md");

    /** Numbers that are as told nowhere. */
    static final int[] WILD = {Integer.MIN_VALUE, Integer.MIN_VALUE + 1, -1000000, -100, -2, 100, 256, 1 << 20,
        Integer.MAX_VALUE - 1, Integer.MAX_VALUE};

    private static int asked = 0;
    private static int wrong = 0;
    private static String held = "";
    private static String document = "";

    private Due() {
    }

    static void is(String call, long got, long due) {
        asked++;
        if (got != due) {
            wrong++;
            System.out.println(held + call + " answered " + got + ", due is " + due);
        }
    }

    static void are(String call, List<Long> got, List<Long> due) {
        is(call + ", how many answers", got.size(), due.size());
        for (int i = 0; i < Math.min(got.size(), due.size()); i++) {
            is(call + ", answer " + i, got.get(i), due.get(i));
        }
    }

    /** Which promise and which sentence of the document the answers that follow hold. */
    static void holds(int promise, String sentence) {
        held = "Promise " + promise + ", \"" + sentence + "\": ";
        // Where only the tests of ../shared stand, there is nothing to look the sentence up in.
        if (Files.exists(DOCUMENT)) {
            is("the document says so", document().contains(sentence) ? 1 : 0, 1);
        }
    }

    private static String document() {
        if (document.isEmpty()) {
            try {
                document = Files.readString(DOCUMENT).replaceAll("\\s+", " ");
            } catch (IOException e) {
                throw new IllegalStateException("can't read " + DOCUMENT, e);
            }
        }
        return document;
    }

    static void types(KingDrops drops, String text) {
        for (int i = 0; i < text.length(); i++) {
            if (drops.type(text.charAt(i)) < 0) {
                is("type(" + (int) text.charAt(i) + ")", -1, 0);
            }
        }
    }

    /** What sideboard() answers to a text, on an object that has none. */
    static int reads(KingDrops drops, String text) {
        types(drops, text);
        return drops.sideboard();
    }

    /** A new object whose text told all. */
    static KingDrops told(String text) {
        KingDrops drops = new KingDrops();
        int items = reads(drops, text);
        if (items < 0) {
            is("sideboard() of " + text, items, 0);
        }
        return drops;
    }

    static void ends() {
        System.out.println(asked + " answers, " + wrong + " of them not as due");
        if (wrong != 0 || asked == 0) {
            System.exit(1);
        }
    }
}
