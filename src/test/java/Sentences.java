import java.io.IOException;
import java.nio.file.Files;
import java.nio.file.Path;
import java.util.ArrayList;
import java.util.List;
import java.util.Map;
import java.util.TreeMap;
import java.util.regex.Matcher;
import java.util.regex.Pattern;

/** The document, taken apart into the sentences that tests are held to quote. */
final class Sentences {
    private static final Pattern PROMISE =
            Pattern.compile("(?s)\n## Promise (\\d+): [^\n]*\n(.*?)(?=\n## )");
    private final String whole;
    private final List<String> terms = new ArrayList<>();
    private final Map<Integer, List<String>> promises = new TreeMap<>();

    Sentences(Path document) throws IOException {
        String text = Files.readString(document);
        whole = plain(text);
        int from = text.indexOf("\n## Terms");
        int to = text.indexOf("\n## Promise 1:");
        for (String block : text.substring(from, to).split("\n\n|\n#+ [^\n]*|\nGlyphs, stems\n")) {
            // what the interface says ahead of its calls is no promise
            if (!block.startsWith("#") && !block.isBlank() && !block.startsWith("Ahead of")) {
                terms.addAll(List.of(plain(block).split("(?<=\\.) (?=[A-Z])")));
            }
        }
        Matcher m = PROMISE.matcher(text);
        while (m.find()) {
            promises.put(Integer.parseInt(m.group(1)), clauses(m.group(2)));
        }
    }

    private static String plain(String text) {
        return text.replaceAll("\\s+", " ").trim();
    }

    // What the call does, each argument, what it returns and each error stand for themselves.
    private static List<String> clauses(String promise) {
        List<String> all = new ArrayList<>();
        for (String block : promise.split("\n\n|\n- ")) {
            String line = plain(block).replaceFirst("^`[^`]*\\)`: ", "").replaceFirst("^- ", "");
            if (line.startsWith("Returns") || line.startsWith("Creates")) {
                all.addAll(List.of(line.replaceFirst("\\.$", "").split("; ")));
            } else if (!line.isEmpty()) {
                all.add(line);
            }
        }
        return all;
    }

    boolean has(String quote) {
        return whole.contains(plain(quote));
    }

    List<String> terms() {
        return terms;
    }

    Map<Integer, List<String>> promises() {
        return promises;
    }

    static boolean touches(String sentence, String quote) {
        return sentence.contains(plain(quote)) || plain(quote).contains(sentence);
    }
}
