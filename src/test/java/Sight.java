import java.util.ArrayList;
import java.util.List;

/**
 * All that can be seen of the object that some calls lead to: what it answers now, after each of
 * up to five undos, and after a play. The document speaks of 512 calls of an object alone, so the
 * calls are done anew on a new object as often as those are used up.
 */
final class Sight {
    static final int CALLS = 512;
    private static final int UNDOS = 5;
    private static final int SLOTS = 4;
    private static final int GLYPHS = 8;
    private static final int STEMS = 6;
    private static final int[] SIZES = {6, 10, 17, 33, 48};
    private static final List<Call> QUERIES = queries();

    private final List<Call> calls;
    private HintedStems x;
    private int used = CALLS;

    private Sight(List<Call> calls) {
        this.calls = calls;
    }

    static int[] of(List<Call> calls) {
        int levels = UNDOS + 2;
        int[] seen = new int[levels * QUERIES.size()];
        List<Call> led = new ArrayList<>(calls);
        for (int level = 0; level <= UNDOS; level++) {
            new Sight(led).look(seen, level);
            led.add(new Call("undo"));
        }
        led = new ArrayList<>(calls);
        led.add(new Call("play"));
        new Sight(led).look(seen, UNDOS + 1);
        return seen;
    }

    /** The first query that is answered otherwise, or an empty text. */
    static String difference(int[] was, int[] is) {
        for (int k = 0; k < was.length; k++) {
            if (was[k] != is[k]) {
                int level = k / QUERIES.size();
                return QUERIES.get(k % QUERIES.size()) + (level > UNDOS ? " after play()"
                        : " after " + level + " undos") + " was " + was[k] + ", is " + is[k];
            }
        }
        return "";
    }

    private void look(int[] seen, int level) {
        int from = level * QUERIES.size();
        int[] sizes = new int[SLOTS];
        for (int k = 0; k < QUERIES.size(); k++) {
            Call query = QUERIES.get(k);
            if (query.name().equals("inSheet")) {
                // the first number of these queries is the sheet's index; its size is known by now
                int size = sizes[query.args()[0]];
                if (size < 0) {
                    continue;
                }
                query = new Call("inSheet", size, query.args()[1], query.args()[2]);
            }
            seen[from + k] = query.on(fresh());
            if (query.name().equals("sheetOf") && query.args()[0] < SLOTS && query.args()[1] == 0) {
                sizes[query.args()[0]] = seen[from + k];
            }
        }
    }

    private HintedStems fresh() {
        if (used >= CALLS) {
            x = new HintedStems();
            for (Call call : calls) {
                call.on(x);
            }
            used = calls.size();
            if (used >= CALLS) {
                throw new IllegalArgumentException("no call is left to look with");
            }
        }
        used++;
        return x;
    }

    private static List<Call> queries() {
        List<Call> all = new ArrayList<>();
        for (int what = 0; what <= 21; what++) {
            all.add(new Call("count", what));
        }
        for (int index = 0; index <= SLOTS; index++) {
            for (int what = 0; what < 4; what++) {
                all.add(new Call("sheetOf", index, what));
            }
        }
        for (int what = 0; what < 3; what++) {
            all.add(new Call("fault", what));
        }
        all.add(new Call("mean"));
        for (int size = 6; size <= 48; size++) {
            all.add(new Call("even", size));
        }
        for (int glyph = 0; glyph < GLYPHS; glyph++) {
            ofGlyph(all, glyph);
        }
        return all;
    }

    private static void ofGlyph(List<Call> all, int glyph) {
        all.add(new Call("clear", glyph));
        for (int size : SIZES) {
            for (int what = 0; what < 6; what++) {
                all.add(new Call("glyphOf", glyph, size, what));
            }
        }
        for (int column = 0; column < 16; column++) {
            all.add(new Call("lit", glyph, 10, column));
        }
        for (int slot = 0; slot < SLOTS; slot++) {
            for (int column = 0; column < 64; column++) {
                all.add(new Call("inSheet", slot, glyph, column));
            }
        }
        for (int stem = 0; stem < STEMS; stem++) {
            for (int what = 0; what < 7; what++) {
                all.add(new Call("stemOf", glyph, stem, what));
            }
            for (int size : SIZES) {
                for (int what = 0; what < 4; what++) {
                    all.add(new Call("pixels", glyph, stem, size, what));
                }
            }
            all.add(new Call("best", glyph, stem, 0));
            all.add(new Call("best", glyph, stem, 1));
        }
    }
}
