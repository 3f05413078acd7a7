import java.io.IOException;
import java.lang.reflect.Constructor;
import java.lang.reflect.Field;
import java.lang.reflect.Method;
import java.lang.reflect.Modifier;
import java.nio.file.Files;
import java.nio.file.Path;
import java.util.Set;
import java.util.TreeSet;
import java.util.regex.Matcher;
import java.util.regex.Pattern;

/** The public face of the document, and the rules of LANGUAGE.md that the text itself can show. */
public final class FaceTests {
    private static final Set<String> FACE = Set.of("glyph/1", "stem/3", "cut/2", "hint/3",
            "standard/1", "drop/1", "make/1", "set/2", "stemOf/3", "pixels/4", "glyphOf/3", "lit/3",
            "inSheet/3", "sheetOf/2", "even/1", "clear/1", "best/3", "mean/0", "count/1", "undo/0",
            "type/1", "clearText/0", "fault/1", "play/0");

    private FaceTests() {
    }

    public static void main(String[] args) throws IOException {
        constants();
        members();
        nested();
        words(Files.readString(Path.of(args[0])));
        Checks.end("FaceTests");
    }

    private static void constants() {
        Checks.about("the constants");
        Checks.due("INVALID_ARGUMENT", HintedStems.INVALID_ARGUMENT, -1000001);
        Checks.due("NOT_POSSIBLE", HintedStems.NOT_POSSIBLE, -1000002);
        Checks.due("LIMIT_REACHED", HintedStems.LIMIT_REACHED, -1000003);
        Checks.due("NOT_FOUND", HintedStems.NOT_FOUND, -1000004);
    }

    private static void members() {
        Checks.about("the face");
        Set<String> open = new TreeSet<>();
        for (Method m : HintedStems.class.getDeclaredMethods()) {
            String name = m.getName() + "/" + m.getParameterCount();
            if (Modifier.isPrivate(m.getModifiers())) {
                boolean taken = FACE.stream().anyMatch(f -> f.startsWith(m.getName() + "/"));
                Checks.due("private method named as a public one: " + name, taken ? 1 : 0, 0);
            } else {
                open.add(name);
                Checks.due("modifiers of " + name, m.getModifiers(), Modifier.PUBLIC);
                Checks.due("int of " + name, m.getReturnType() == int.class ? 1 : 0, 1);
            }
        }
        Checks.due("the methods are those of the document", open.equals(FACE) ? 1 : 0, 1);
        int constants = 0;
        for (Field f : HintedStems.class.getDeclaredFields()) {
            if (!Modifier.isPrivate(f.getModifiers())) {
                constants++;
            }
        }
        Checks.due("open fields", constants, 4);
        Constructor<?>[] made = HintedStems.class.getDeclaredConstructors();
        Checks.due("constructors", made.length, 1);
        Checks.due("modifiers of the class", HintedStems.class.getModifiers(),
                Modifier.PUBLIC | Modifier.FINAL);
    }

    private static void nested() {
        Checks.about("rule 11");
        Class<?>[] inside = HintedStems.class.getDeclaredClasses();
        Checks.due("at most some twelve classes", inside.length <= 11 ? 1 : 0, 1);
        for (Class<?> c : inside) {
            int fields = 0;
            for (Field f : c.getDeclaredFields()) {
                fields += Modifier.isStatic(f.getModifiers()) ? 0 : 1;
            }
            Checks.due("fields of " + c.getSimpleName() + " are some twenty", fields <= 20 ? 1 : 0, 1);
            Checks.due("static " + c.getSimpleName(), c.getModifiers() & Modifier.STATIC,
                    Modifier.STATIC);
            Checks.due("open " + c.getSimpleName(),
                    c.getModifiers() & (Modifier.PUBLIC | Modifier.PROTECTED), 0);
        }
    }

    private static void words(String source) {
        Checks.about("the text of the class");
        String bare = source.replaceAll("(?s)/\\*.*?\\*/", " ").replaceAll("//[^\n]*", " ");
        for (String word : new String[] {"->", "::", "Exact\\b", "\\bimport\\b", "\\bpackage\\b",
            "\\bcatch\\b", "\\bthrow\\b", "\\bfinally\\b", "\\bassert\\b", "\\bsynchronized\\b",
            "\\binstanceof\\b", "static \\{", "\\bFloat\\b", "\\bDouble\\b", "\\bSystem\\b"}) {
            Matcher m = Pattern.compile(word).matcher(bare);
            Checks.due("has " + word, m.find() ? 1 : 0, 0);
        }
        // Objects are made where fields and constructors are, never by a call.
        Matcher made = Pattern.compile("(?m)^(.*)\\bnew \\w").matcher(bare);
        while (made.find()) {
            boolean held = made.group(1).contains("final") || made.group(1).contains("slots[k] =");
            Checks.due("made outside a field: " + made.group().trim(), held ? 1 : 0, 1);
        }
    }
}
