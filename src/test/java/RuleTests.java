import com.sun.source.tree.ClassTree;
import com.sun.source.tree.CompilationUnitTree;
import com.sun.source.tree.MethodInvocationTree;
import com.sun.source.tree.MethodTree;
import com.sun.source.util.JavacTask;
import com.sun.source.util.TreePathScanner;
import com.sun.source.util.Trees;
import java.io.IOException;
import java.lang.reflect.Array;
import java.lang.reflect.Field;
import java.lang.reflect.Modifier;
import java.util.ArrayDeque;
import java.util.Collections;
import java.util.Deque;
import java.util.IdentityHashMap;
import java.util.LinkedHashSet;
import java.util.Map;
import java.util.Set;
import java.util.TreeMap;
import java.util.TreeSet;
import javax.lang.model.element.Element;
import javax.tools.JavaCompiler;
import javax.tools.StandardJavaFileManager;
import javax.tools.ToolProvider;

/** The rules of LANGUAGE.md that the compiler's own tree of the class shows, and its room. */
public final class RuleTests {
    // Those of rule 4 that the class uses or may come to use; it needs no text and no list.
    private static final Set<String> LIBRARY = Set.of("java.lang.Math.max", "java.lang.Math.min",
            "java.lang.Math.abs", "java.lang.Math.floorDiv", "java.lang.Math.floorMod",
            "java.lang.Long.bitCount", "java.lang.Integer.bitCount", "java.lang.Object.<init>");
    private static final int MOST_PARAMETERS = 7;
    private static final int MOST_LINES = 60;
    private static final int MOST_DEEP = 8;
    // Two thousand such objects have room in 600,000 objects with 7.3 million fields and elements.
    private static final int MOST_OBJECTS = 150;
    private static final int MOST_ELEMENTS = 3000;

    private final Map<String, Set<String>> calls = new TreeMap<>();
    private final Map<String, Integer> known = new TreeMap<>();

    private RuleTests() {
    }

    public static void main(String[] args) throws IOException {
        RuleTests rules = new RuleTests();
        rules.read(args[0]);
        rules.library();
        rules.depth();
        room();
        Checks.end("RuleTests");
    }

    private void read(String file) throws IOException {
        JavaCompiler compiler = ToolProvider.getSystemJavaCompiler();
        try (StandardJavaFileManager files = compiler.getStandardFileManager(null, null, null)) {
            JavacTask task = (JavacTask) compiler.getTask(null, files, null, null, null,
                    files.getJavaFileObjects(file));
            for (CompilationUnitTree unit : task.parse()) {
                task.analyze();
                new Reader(Trees.instance(task)).scan(unit, null);
            }
        }
    }

    /** Notes what each method calls, and looks at its form. */
    private final class Reader extends TreePathScanner<Void, Void> {
        private final Trees trees;
        private String method = "";

        Reader(Trees trees) {
            this.trees = trees;
        }

        @Override
        public Void visitClass(ClassTree tree, Void none) {
            String was = method;
            method = "fields of " + tree.getSimpleName();
            super.visitClass(tree, none);
            method = was;
            return null;
        }

        @Override
        public Void visitMethod(MethodTree tree, Void none) {
            String was = method;
            method = nameOf(trees.getElement(getCurrentPath()));
            Checks.about("rule 11: " + method);
            int parameters = tree.getParameters().size();
            Checks.due("parameters are few", parameters <= MOST_PARAMETERS ? 1 : 0, 1);
            Checks.due("lines are some sixty", linesOf(tree) <= MOST_LINES ? 1 : 0, 1);
            calls.computeIfAbsent(method, m -> new LinkedHashSet<>());
            super.visitMethod(tree, none);
            method = was;
            return null;
        }

        @Override
        public Void visitMethodInvocation(MethodInvocationTree tree, Void none) {
            calls.computeIfAbsent(method, m -> new LinkedHashSet<>())
                    .add(nameOf(trees.getElement(getCurrentPath())));
            return super.visitMethodInvocation(tree, none);
        }

        private String nameOf(Element of) {
            return of == null ? "unknown" : of.getEnclosingElement() + "." + of.getSimpleName();
        }

        private long linesOf(MethodTree tree) {
            CompilationUnitTree unit = getCurrentPath().getCompilationUnit();
            long from = trees.getSourcePositions().getStartPosition(unit, tree);
            long to = trees.getSourcePositions().getEndPosition(unit, tree);
            // What the compiler adds by itself, a constructor that does nothing, has no end.
            return to < 0 ? 0 : unit.getLineMap().getLineNumber(to)
                    - unit.getLineMap().getLineNumber(from) + 1;
        }
    }

    private void library() {
        Checks.about("rule 4");
        Set<String> used = new TreeSet<>();
        calls.values().forEach(used::addAll);
        used.removeAll(calls.keySet());
        for (String name : used) {
            Checks.due(name + " is of the library", LIBRARY.contains(name) ? 1 : 0, 1);
        }
        Checks.due("methods were read", calls.size() > 50 ? 1 : 0, 1);
    }

    private void depth() {
        Checks.about("rule 11");
        for (String name : calls.keySet()) {
            if (!name.startsWith("fields of ")) {
                int deep = deep(name, new ArrayDeque<>());
                Checks.due(name + " goes " + deep + " deep, eight at most",
                        deep <= MOST_DEEP ? 1 : 0, 1);
            }
        }
    }

    private int deep(String name, Deque<String> open) {
        if (open.contains(name)) {
            Checks.due(name + " is called while it stands open", 1, 0);
            return 0;
        }
        Integer told = known.get(name);
        if (told != null) {
            return told;
        }
        open.push(name);
        int most = 0;
        for (String other : calls.getOrDefault(name, Set.of())) {
            // What a constructor does ahead of all is no call of the program.
            most = other.endsWith("<init>") ? most : Math.max(most, deep(other, open));
        }
        open.pop();
        known.put(name, most + 1);
        return most + 1;
    }

    private static void room() {
        Checks.about("the room of one object");
        int[] before = roomOf(new HintedStems());
        Checks.due("objects: " + before[0], before[0] <= MOST_OBJECTS ? 1 : 0, 1);
        Checks.due("fields and elements: " + before[1], before[1] <= MOST_ELEMENTS ? 1 : 0, 1);
        HintedStems x = new HintedStems();
        for (int k = 0; k < 60; k++) {
            x.type("m12;".charAt(k % 4));
        }
        for (int k = 0; k < 8; k++) {
            x.glyph(1000);
            x.stem(k, 100, 50);
            x.make(10 + k);
        }
        Checks.due("play()", x.play(), 15);
        int[] after = roomOf(x);
        Checks.due("objects when all is full", after[0], before[0]);
        Checks.due("fields and elements when all is full", after[1], before[1]);
    }

    // How many objects and arrays hang on an object, and how many fields and elements they have.
    private static int[] roomOf(Object root) {
        Set<Object> seen = Collections.newSetFromMap(new IdentityHashMap<>());
        Deque<Object> waiting = new ArrayDeque<>();
        waiting.add(root);
        int elements = 0;
        while (!waiting.isEmpty()) {
            Object next = waiting.remove();
            if (!seen.add(next)) {
                continue;
            }
            if (next.getClass().isArray()) {
                elements += Array.getLength(next);
                for (int k = 0; next instanceof Object[] && k < Array.getLength(next); k++) {
                    waiting.add(Array.get(next, k));
                }
            } else {
                elements += fieldsOf(next, waiting);
            }
        }
        return new int[] {seen.size(), elements};
    }

    private static int fieldsOf(Object of, Deque<Object> waiting) {
        int fields = 0;
        for (Field f : of.getClass().getDeclaredFields()) {
            if (!Modifier.isStatic(f.getModifiers())) {
                fields++;
                f.setAccessible(true);
                try {
                    if (!f.getType().isPrimitive() && f.get(of) != null) {
                        waiting.add(f.get(of));
                    }
                } catch (IllegalAccessException e) {
                    Checks.due("a look at " + f, 0, 1);
                }
            }
        }
        return fields;
    }
}
