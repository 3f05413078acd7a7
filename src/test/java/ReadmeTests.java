import java.io.IOException;
import java.nio.file.Files;
import java.nio.file.Path;
import java.util.ArrayList;
import java.util.List;
import java.util.regex.Matcher;
import java.util.regex.Pattern;
import java.util.stream.Stream;

/** The README: the answers of its example are those of the class, and it names every test. */
public final class ReadmeTests {
    private static final Path README = Path.of("README.md");
    private static final Path TESTS = Path.of("src", "test", "java");

    // The lines of the example, each with what is due if it is a call.
    private static final String[] EXAMPLE = {
        "HintedStems font = new HintedStems();",
        "int g = font.glyph(600);              // a glyph with an advance of 600 units: 0",
        "font.stem(g, 100, 80);                // a stem at 100, 80 units wide: 0",
        "font.stem(g, 400, 90);                // and one to its right: 1",
        "font.standard(85);                    // a standard width, to which both snap: 2",
        "font.hint(g, 1, 3);                   // the second stem follows the first one; its hint was: 0",
        "int left = font.pixels(g, 1, 12, 0);  // its left pixel at the size 12: 5",
        "int lit = font.lit(g, 12, left);      // that column is lit: 1",
        "font.make(12);                        // the sheet of the size 12, the only one: 1",
        "font.undo();                          // it is gone again; 3 states are left: 3",
    };

    private ReadmeTests() {
    }

    public static void main(String[] args) throws IOException {
        String text = Files.readString(README);
        example(text);
        answers();
        names(text);
        Checks.end("ReadmeTests");
    }

    private static void example(String text) {
        Checks.about("the example of the README");
        Matcher block = Pattern.compile("(?s)```java\n(.*?)```").matcher(text);
        Checks.due("is there", block.find() ? 1 : 0, 1);
        List<String> lines = block.reset().find() ? List.of(block.group(1).split("\n")) : List.of();
        Checks.due("is the one that is tested", lines.equals(List.of(EXAMPLE)) ? 1 : 0, 1);
    }

    private static void answers() {
        HintedStems font = new HintedStems();
        List<Integer> told = new ArrayList<>();
        for (String line : EXAMPLE) {
            Matcher m = Pattern.compile(": (\\d+)$").matcher(line);
            if (m.find()) {
                told.add(Integer.parseInt(m.group(1)));
            }
        }
        int g = font.glyph(600);
        List<Integer> got = new ArrayList<>(List.of(g, font.stem(g, 100, 80), font.stem(g, 400, 90),
                font.standard(85), font.hint(g, 1, 3)));
        int left = font.pixels(g, 1, 12, 0);
        got.addAll(List.of(left, font.lit(g, 12, left), font.make(12), font.undo()));
        Checks.due("answers " + got + ", told are " + told, got.equals(told) ? 1 : 0, 1);
        Checks.due("sheets after it", font.count(3), 0);
    }

    private static void names(String text) throws IOException {
        Checks.about("the tests that the README names");
        try (Stream<Path> files = Files.list(TESTS)) {
            files.map(f -> f.getFileName().toString()).filter(f -> f.endsWith("Tests.java"))
                    .map(f -> "`src/test/java/" + f + "`")
                    .forEach(f -> Checks.due(f, text.contains(f) ? 1 : 0, 1));
        }
    }
}
