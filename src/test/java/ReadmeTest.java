import java.io.ByteArrayOutputStream;
import java.io.IOException;
import java.io.PrintStream;
import java.lang.reflect.Method;
import java.lang.reflect.Modifier;
import java.nio.charset.StandardCharsets;
import java.nio.file.DirectoryStream;
import java.nio.file.Files;
import java.nio.file.Path;
import java.util.ArrayList;
import java.util.List;

/** README.md shows the program Plate as it stands, with what it prints, and names every call and test. */
public final class ReadmeTest {
    private static final Path README = Path.of("README.md");
    private static final Path TESTS = Path.of("src", "test", "java");

    public static void main(String[] args) throws IOException {
        Checks checks = new Checks();
        String readme = Files.readString(README);
        checks.text("the program in README.md", block(readme, "java"), Files.readString(TESTS.resolve("Plate.java")));
        checks.text("what it prints", block(readme, "text"), printed());
        for (String call : calls()) {
            checks.yes("README.md tells of " + call, readme.contains("| `" + call + "("));
        }
        for (String name : tests()) {
            checks.yes("README.md tells of " + name, readme.contains("| `" + name + "` |"));
        }
        checks.end();
    }

    private static String block(String readme, String kind) {
        String opening = "```" + kind + "\n";
        int from = readme.indexOf(opening);
        int to = from < 0 ? -1 : readme.indexOf("```", from + opening.length());
        return to < 0 ? "" : readme.substring(from + opening.length(), to);
    }

    private static String printed() {
        ByteArrayOutputStream bytes = new ByteArrayOutputStream();
        PrintStream before = System.out;
        System.setOut(new PrintStream(bytes, true, StandardCharsets.UTF_8));
        try {
            Plate.main(new String[0]);
        } finally {
            System.setOut(before);
        }
        return bytes.toString(StandardCharsets.UTF_8).replace(System.lineSeparator(), "\n");
    }

    private static List<String> calls() {
        List<String> names = new ArrayList<>();
        for (Method method : PartSketch.class.getDeclaredMethods()) {
            if (Modifier.isPublic(method.getModifiers())) {
                names.add(method.getName());
            }
        }
        return names;
    }

    private static List<String> tests() throws IOException {
        List<String> names = new ArrayList<>();
        try (DirectoryStream<Path> files = Files.newDirectoryStream(TESTS, "*Test.java")) {
            for (Path file : files) {
                names.add(file.getFileName().toString().replace(".java", ""));
            }
        }
        return names;
    }
}
