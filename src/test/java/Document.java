import java.io.IOException;
import java.nio.file.Files;
import java.nio.file.Path;
import java.util.LinkedHashMap;
import java.util.Map;

/**
 * The sentences of the document. A test says for which sentence it stands, and that sentence has
 * to be there; at the end no sentence of the terms and the promises may be left without a test.
 */
final class Document {
    private static final Path FILE = Path.of("..", "shared", "DOC.md");

    private final Checks checks;
    private final boolean there;
    private final Map<String, String> parts = new LinkedHashMap<>();
    private final Map<String, String> left = new LinkedHashMap<>();

    Document(Checks checks) throws IOException {
        this.checks = checks;
        there = Files.isReadable(FILE);
        if (!there) {
            System.out.println("no document at " + FILE + ": its sentences are not compared");
            return;
        }
        for (String part : Files.readString(FILE).split("(?m)^## ")) {
            int end = part.indexOf('\n');
            String heading = part.substring(0, end).replaceFirst(":.*", "");
            parts.put(heading, part.substring(end));
            left.put(heading, part.substring(end));
        }
    }

    void whatItIs(String sentence) {
        says("What it is", sentence);
    }

    void terms(String sentence) {
        says("Terms", sentence);
    }

    void promise(int number, String sentence) {
        says("Promise " + number, sentence);
    }

    private void says(String heading, String sentence) {
        if (!there) {
            return;
        }
        checks.yes(heading + " says: " + sentence, parts.getOrDefault(heading, "").contains(sentence));
        left.computeIfPresent(heading, (key, text) -> text.replace(sentence, ""));
    }

    void nothingIsLeft() {
        for (Map.Entry<String, String> part : left.entrySet()) {
            if (part.getKey().matches("Terms|Promise \\d+")) {
                checks.text(part.getKey() + ": what no test stands for", untested(part.getValue()), "");
            }
        }
    }

    /** The heads of methods are LanguageTest's; lines about comments of the interface bind nothing. */
    private static String untested(String text) {
        return text.replaceAll("(?m)^`[^`\n]*`: ", "").replaceAll("(?m)^Ahead of the calls .*$", "").strip();
    }
}
