import java.io.IOException;
import java.lang.reflect.InvocationTargetException;
import java.lang.reflect.Method;
import java.nio.file.Path;
import java.util.ArrayList;
import java.util.Arrays;
import java.util.Comparator;
import java.util.List;
import java.util.Map;
import java.util.TreeMap;
import java.util.regex.Matcher;
import java.util.regex.Pattern;

/**
 * Runs each test that is named for a promise and quotes the sentence that it holds the class to,
 * and looks whether the document says what is quoted and no sentence of it goes without a test.
 */
public final class EdgeTests {
    private static final Class<?>[] GROUPS =
            {EdgesOfChanges.class, EdgesOfPixels.class, EdgesOfLooks.class,
        EdgesOfTexts.class, EdgesOfRefusals.class};
    private static final Pattern NAME = Pattern.compile("promise(\\d+)[A-Z]\\w*");
    private static final int LEAST_QUOTE = 8;

    private static final List<String> quotes = new ArrayList<>();
    private static final Map<Integer, List<String>> quotesOfPromises = new TreeMap<>();
    private static int tests = 0;

    private EdgeTests() {
    }

    public static void main(String[] args) throws IOException, ReflectiveOperationException {
        Sentences document = new Sentences(Path.of(args[1]));
        for (Class<?> group : GROUPS) {
            Method[] methods = group.getDeclaredMethods();
            Arrays.sort(methods, Comparator.comparing(Method::getName));
            for (Method m : methods) {
                Matcher named = NAME.matcher(m.getName());
                if (named.matches()) {
                    run(m, Integer.parseInt(named.group(1)), document);
                }
            }
        }
        covered(document);
        System.out.println("EdgeTests: " + tests + " tests of " + quotes.size() + " quotes");
        Checks.end("EdgeTests");
    }

    private static void run(Method test, int promise, Sentences document)
            throws ReflectiveOperationException {
        Checks.about(test.getName());
        tests++;
        Says says = test.getAnnotation(Says.class);
        Checks.due("quotes", says == null ? 0 : 1, 1);
        for (String quote : says == null ? new String[0] : says.value()) {
            Checks.due("\"" + quote + "\" is long enough", quote.length() < LEAST_QUOTE ? 0 : 1, 1);
            Checks.due("the document says \"" + quote + "\"", document.has(quote) ? 1 : 0, 1);
            quotes.add(quote);
            quotesOfPromises.computeIfAbsent(promise, p -> new ArrayList<>()).add(quote);
        }
        try {
            test.setAccessible(true);
            test.invoke(null);
        } catch (InvocationTargetException e) {
            e.getCause().printStackTrace(System.out);
            Checks.due("ends without " + e.getCause(), 0, 1);
        }
    }

    private static void covered(Sentences document) {
        Checks.about("each sentence has a test");
        for (String sentence : document.terms()) {
            Checks.due("\"" + sentence + "\" is quoted", isQuoted(sentence, quotes) ? 1 : 0, 1);
        }
        Checks.due("promises", document.promises().size(), 25);
        document.promises().forEach((promise, clauses) -> {
            for (String clause : clauses) {
                boolean quoted = isQuoted(clause, quotesOfPromises.getOrDefault(promise, List.of()));
                Checks.due("\"" + clause + "\" of promise " + promise + " is quoted",
                        quoted ? 1 : 0, 1);
            }
        });
    }

    private static boolean isQuoted(String sentence, List<String> by) {
        return by.stream().anyMatch(quote -> Sentences.touches(sentence, quote));
    }
}
