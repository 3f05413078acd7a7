import java.util.ArrayDeque;
import java.util.ArrayList;
import java.util.Comparator;
import java.util.Deque;
import java.util.List;
import java.util.TreeSet;
import java.util.regex.Matcher;
import java.util.regex.Pattern;

/**
 * The document written down a second time, with the Java library and without regard to room, so
 * that two readings of it can be held against each other.
 */
final class Model {
    private static final int INVALID = -1000001;
    private static final int IMPOSSIBLE = -1000002;
    private static final int LIMIT = -1000003;
    private static final int NONE = -1000004;

    private record Stem(int place, int width, int hint) {
    }

    private record Glyph(int advance, List<Stem> stems) {
    }

    private record Sheet(int size, List<boolean[]> glyphs) {
    }

    /** A glyph at a size. */
    private static final class Drawn {
        int[] left;
        int[] pixels;
        boolean[] pushed;
        boolean[] cut;
        boolean[] lit;

        boolean clear() {
            for (int k = 0; k < left.length; k++) {
                if (pushed[k] || cut[k]) {
                    return false;
                }
            }
            return true;
        }
    }

    /** All that undo gives back; what stands in the lists is never changed, only replaced. */
    private static final class State {
        List<Glyph> glyphs = new ArrayList<>();
        TreeSet<Integer> standards = new TreeSet<>();
        int cutoff = 20;
        int gap = 1;
        List<Sheet> sheets = new ArrayList<>();
        int made = 0;

        State twin() {
            State s = new State();
            s.glyphs = new ArrayList<>(glyphs);
            s.standards = new TreeSet<>(standards);
            s.cutoff = cutoff;
            s.gap = gap;
            s.sheets = new ArrayList<>(sheets);
            s.made = made;
            return s;
        }

        boolean isStem(int glyph, int stem) {
            return in(glyph, 0, glyphs.size() - 1) && in(stem, 0, glyphs.get(glyph).stems.size() - 1);
        }

        List<Stem> allStems() {
            List<Stem> all = new ArrayList<>();
            glyphs.forEach(g -> all.addAll(g.stems));
            return all;
        }

        Integer snap(int width) {
            return standards.stream()
                    .filter(s -> Math.abs(s - width) <= cutoff)
                    .min(Comparator.<Integer>comparingInt(s -> Math.abs(s - width))
                            .thenComparingInt(s -> s))
                    .orElse(null);
        }

        int hinted(int width) {
            Integer s = snap(width);
            return s == null ? width : s;
        }

        int wide(int width, int size) {
            return Math.max(1, px(hinted(width), size));
        }

        Drawn draw(int glyph, int size) {
            Glyph g = glyphs.get(glyph);
            int n = g.stems.size();
            Drawn d = new Drawn();
            d.left = new int[n];
            d.pixels = new int[n];
            d.pushed = new boolean[n];
            d.cut = new boolean[n];
            int columns = px(g.advance, size);
            columns = columns < 1 ? 1 : columns > 64 ? 64 : columns;
            d.lit = new boolean[columns];
            for (int k = 0; k < n; k++) {
                Stem s = g.stems.get(k);
                int wide = wide(s.width, size);
                int x = px(s.place, size);
                if (s.hint == 1) {
                    x = (int) Math.floor((px(2 * s.place + s.width, size) - wide) / 2.0);
                } else if (s.hint == 2) {
                    x = px(s.place + s.width, size) - wide;
                }
                if (k > 0) {
                    Stem before = g.stems.get(k - 1);
                    int gapUnits = s.place - before.place - before.width;
                    int behind = d.left[k - 1] + d.pixels[k - 1];
                    if (s.hint == 3) {
                        int gapPixels = px(gapUnits, size);
                        x = behind + (gapPixels < gap ? gap : gapPixels);
                    }
                    int nearest = gapUnits == 0 ? behind : behind + 1;
                    d.pushed[k] = x < nearest;
                    x = d.pushed[k] ? nearest : x;
                }
                d.left[k] = x;
                d.pixels[k] = wide;
                for (int p = x; p < x + wide; p++) {
                    if (p < 0 || p >= columns) {
                        d.cut[k] = true;
                    } else {
                        d.lit[p] = true;
                    }
                }
            }
            return d;
        }

        boolean stale(Sheet s) {
            if (s.glyphs.size() < glyphs.size()) {
                return true;
            }
            for (int g = 0; g < s.glyphs.size(); g++) {
                if (!java.util.Arrays.equals(s.glyphs.get(g), draw(g, s.size).lit)) {
                    return true;
                }
            }
            return false;
        }

        Sheet sheet(int size) {
            return sheets.stream().filter(s -> s.size == size).findFirst().orElse(null);
        }

        int glyph(int advance) {
            if (!in(advance, 100, 1500)) {
                return INVALID;
            }
            if (glyphs.size() == 8) {
                return LIMIT;
            }
            glyphs.add(new Glyph(advance, List.of()));
            return glyphs.size() - 1;
        }

        int stem(int glyph, int place, int width) {
            if (!in(glyph, 0, glyphs.size() - 1) || !in(place, 0, 999) || !in(width, 1, 300)) {
                return INVALID;
            }
            Glyph g = glyphs.get(glyph);
            for (Stem s : g.stems) {
                boolean apart = s.place + s.width <= place || place + width <= s.place;
                if (!apart) {
                    return IMPOSSIBLE;
                }
            }
            if (g.stems.size() == 6) {
                return LIMIT;
            }
            Stem fresh = new Stem(place, width, 0);
            List<Stem> stems = new ArrayList<>(g.stems);
            stems.add(fresh);
            stems.sort(Comparator.comparingInt(Stem::place));
            glyphs.set(glyph, new Glyph(g.advance, stems));
            return stems.indexOf(fresh);
        }

        int cut(int glyph, int stem) {
            if (!isStem(glyph, stem)) {
                return INVALID;
            }
            List<Stem> stems = new ArrayList<>(glyphs.get(glyph).stems);
            stems.remove(stem);
            glyphs.set(glyph, new Glyph(glyphs.get(glyph).advance, stems));
            return stems.size();
        }

        int hint(int glyph, int stem, int hint) {
            if (!isStem(glyph, stem) || !in(hint, 0, 3)) {
                return INVALID;
            }
            List<Stem> stems = new ArrayList<>(glyphs.get(glyph).stems);
            Stem was = stems.get(stem);
            stems.set(stem, new Stem(was.place, was.width, hint));
            glyphs.set(glyph, new Glyph(glyphs.get(glyph).advance, stems));
            return was.hint;
        }

        int standard(int width) {
            if (!in(width, 1, 300)) {
                return INVALID;
            }
            if (standards.contains(width)) {
                return IMPOSSIBLE;
            }
            if (standards.size() == 3) {
                return LIMIT;
            }
            standards.add(width);
            int snapping = 0;
            for (Stem s : allStems()) {
                Integer to = snap(s.width);
                snapping += to != null && to == width ? 1 : 0;
            }
            return snapping;
        }

        int drop(int width) {
            if (!in(width, 1, 300)) {
                return INVALID;
            }
            return standards.remove(width) ? standards.size() : IMPOSSIBLE;
        }

        int make(int size) {
            if (!in(size, 6, 48)) {
                return INVALID;
            }
            sheets.removeIf(s -> s.size == size);
            if (sheets.size() == 4) {
                sheets.remove(0);
            }
            List<boolean[]> drawn = new ArrayList<>();
            for (int g = 0; g < glyphs.size(); g++) {
                drawn.add(draw(g, size).lit);
            }
            sheets.add(new Sheet(size, drawn));
            made++;
            return sheets.size();
        }

        int set(int what, int value) {
            if (what == 0 && in(value, 0, 100)) {
                int was = cutoff;
                cutoff = value;
                return was;
            }
            if (what == 1 && in(value, 0, 3)) {
                int was = gap;
                gap = value;
                return was;
            }
            return INVALID;
        }
    }

    private State now = new State();
    private final Deque<State> past = new ArrayDeque<>();
    private String text = "";

    private static boolean in(int v, int least, int greatest) {
        return least <= v && v <= greatest;
    }

    private static int px(int units, int size) {
        return (units * size + 500) / 1000;
    }

    private interface Change {
        int on(State s);
    }

    private int change(Change c) {
        State next = now.twin();
        int answer = c.on(next);
        if (answer >= 0) {
            past.addLast(now);
            if (past.size() > 4) {
                past.removeFirst();
            }
            now = next;
        }
        return answer;
    }

    int glyph(int advance) {
        return change(s -> s.glyph(advance));
    }

    int stem(int glyph, int place, int width) {
        return change(s -> s.stem(glyph, place, width));
    }

    int cut(int glyph, int stem) {
        return change(s -> s.cut(glyph, stem));
    }

    int hint(int glyph, int stem, int hint) {
        return change(s -> s.hint(glyph, stem, hint));
    }

    int standard(int width) {
        return change(s -> s.standard(width));
    }

    int drop(int width) {
        return change(s -> s.drop(width));
    }

    int make(int size) {
        return change(s -> s.make(size));
    }

    int set(int what, int value) {
        return change(s -> s.set(what, value));
    }

    int stemOf(int glyph, int stem, int what) {
        if (!now.isStem(glyph, stem) || !in(what, 0, 6)) {
            return INVALID;
        }
        List<Stem> stems = now.glyphs.get(glyph).stems;
        Stem s = stems.get(stem);
        if (what == 0) {
            return s.place;
        }
        if (what == 1) {
            return s.width;
        }
        if (what == 2) {
            return s.hint;
        }
        if (what == 3) {
            return now.hinted(s.width);
        }
        if (what == 4) {
            Integer to = now.snap(s.width);
            return to == null ? NONE : to;
        }
        if (what == 5) {
            return (int) now.allStems().stream()
                    .filter(o -> now.hinted(o.width) == now.hinted(s.width)).count();
        }
        if (stem == 0) {
            return NONE;
        }
        Stem before = stems.get(stem - 1);
        return s.place - (before.place + before.width);
    }

    int pixels(int glyph, int stem, int size, int what) {
        if (!now.isStem(glyph, stem) || !in(size, 6, 48) || !in(what, 0, 3)) {
            return INVALID;
        }
        Drawn d = now.draw(glyph, size);
        return new int[] {d.left[stem], d.pixels[stem], d.pushed[stem] ? 1 : 0,
            d.cut[stem] ? 1 : 0}[what];
    }

    private static int set(boolean[] members) {
        int bits = 0;
        for (int k = 0; k < members.length; k++) {
            bits += members[k] ? 1 << k : 0;
        }
        return bits;
    }

    private static int litOf(boolean[] columns) {
        int lit = 0;
        for (boolean c : columns) {
            lit += c ? 1 : 0;
        }
        return lit;
    }

    int glyphOf(int glyph, int size, int what) {
        if (!in(glyph, 0, now.glyphs.size() - 1) || !in(size, 6, 48) || !in(what, 0, 5)) {
            return INVALID;
        }
        Drawn d = now.draw(glyph, size);
        int runs = 0;
        for (int c = 0; c < d.lit.length; c++) {
            runs += d.lit[c] && (c == 0 || !d.lit[c - 1]) ? 1 : 0;
        }
        return new int[] {d.lit.length, litOf(d.lit), d.clear() ? 1 : 0, set(d.pushed),
            set(d.cut), runs}[what];
    }

    int lit(int glyph, int size, int column) {
        if (!in(glyph, 0, now.glyphs.size() - 1) || !in(size, 6, 48) || !in(column, 0, 63)) {
            return INVALID;
        }
        boolean[] lit = now.draw(glyph, size).lit;
        return column >= lit.length ? NONE : lit[column] ? 1 : 0;
    }

    int inSheet(int size, int glyph, int column) {
        if (!in(glyph, 0, 7) || !in(size, 6, 48) || !in(column, 0, 63)) {
            return INVALID;
        }
        Sheet s = now.sheet(size);
        if (s == null || glyph >= s.glyphs.size() || column >= s.glyphs.get(glyph).length) {
            return NONE;
        }
        return s.glyphs.get(glyph)[column] ? 1 : 0;
    }

    int sheetOf(int index, int what) {
        if (index < 0 || !in(what, 0, 3)) {
            return INVALID;
        }
        if (index >= now.sheets.size()) {
            return NONE;
        }
        Sheet s = now.sheets.get(index);
        return new int[] {s.size, s.glyphs.size(), now.stale(s) ? 1 : 0,
            s.glyphs.stream().mapToInt(Model::litOf).sum()}[what];
    }

    int even(int size) {
        if (!in(size, 6, 48)) {
            return INVALID;
        }
        for (Stem a : now.allStems()) {
            for (Stem b : now.allStems()) {
                if (Math.abs(a.width - b.width) <= now.cutoff
                        && now.wide(a.width, size) != now.wide(b.width, size)) {
                    return 0;
                }
            }
        }
        return 1;
    }

    int clear(int glyph) {
        if (!in(glyph, 0, now.glyphs.size() - 1)) {
            return INVALID;
        }
        for (int size = 6; size < 49; size++) {
            if (now.draw(glyph, size).clear()) {
                return size;
            }
        }
        return NONE;
    }

    int best(int glyph, int stem, int what) {
        if (!now.isStem(glyph, stem) || !in(what, 0, 1)) {
            return INVALID;
        }
        int[] clear = new int[4];
        int best = 0;
        for (int h = 0; h < 4; h++) {
            State s = now.twin();
            s.hint(glyph, stem, h);
            for (int size = 6; size < 49; size++) {
                clear[h] += s.draw(glyph, size).clear() ? 1 : 0;
            }
            best = clear[h] > clear[best] ? h : best;
        }
        return what == 0 ? best : clear[best];
    }

    int mean() {
        List<Stem> all = now.allStems();
        if (all.isEmpty()) {
            return NONE;
        }
        float sum = all.stream().mapToInt(Stem::width).sum();
        return Float.floatToIntBits(sum / all.size());
    }

    int count(int what) {
        switch (what) {
            case 0: return now.glyphs.size();
            case 1: return now.allStems().size();
            case 2: return now.standards.size();
            case 3: return now.sheets.size();
            case 4: return (int) now.sheets.stream().filter(now::stale).count();
            case 5: return (int) now.allStems().stream().map(s -> now.hinted(s.width)).distinct()
                    .count();
            case 6: return now.made;
            case 7: return past.size();
            case 8: return text.length();
            case 10: case 11: case 12:
                return now.standards.size() <= what - 10 ? NONE
                        : new ArrayList<>(now.standards).get(what - 10);
            case 20: return now.cutoff;
            case 21: return now.gap;
            default: return INVALID;
        }
    }

    int undo() {
        if (past.isEmpty()) {
            return IMPOSSIBLE;
        }
        now = past.removeLast();
        return past.size();
    }

    int type(int character) {
        if (!in(character, 32, 126)) {
            return INVALID;
        }
        if (text.length() == 60) {
            return LIMIT;
        }
        text += (char) character;
        return text.length();
    }

    int clearText() {
        int had = text.length();
        text = "";
        return had;
    }

    private static final Pattern ORDER = Pattern.compile(
            "(?:([gwm])([0-9]{1,4});|([sh])([0-9]{1,4}),([0-9]{1,4}),([0-9]{1,4});)");

    /** The number of orders, or the three numbers of the fault. */
    private int[] read(State s) {
        int at = 0;
        int orders = 0;
        while (at < text.length()) {
            Matcher m = ORDER.matcher(text).region(at, text.length());
            if (!m.lookingAt()) {
                return new int[] {at, 1, breaking(text.substring(at))};
            }
            int answer = obey(s, m);
            if (answer < 0) {
                return new int[] {at, 2, answer};
            }
            orders++;
            at = m.end();
        }
        return new int[] {orders};
    }

    private static int obey(State s, Matcher m) {
        int one = Integer.parseInt(m.group(1) != null ? m.group(2) : m.group(4));
        if (m.group(1) != null) {
            switch (m.group(1)) {
                case "g": return s.glyph(one);
                case "w": return s.standard(one);
                default: return s.make(one);
            }
        }
        int two = Integer.parseInt(m.group(5));
        int three = Integer.parseInt(m.group(6));
        return m.group(3).equals("s") ? s.stem(one, two, three) : s.hint(one, two, three);
    }

    /** The length of the longest beginning that some order has too. */
    private static int breaking(String rest) {
        int longest = 0;
        for (int n = 1; n <= rest.length(); n++) {
            Matcher m = ORDER.matcher(rest.substring(0, n));
            if (m.matches() || m.hitEnd()) {
                longest = n;
            }
        }
        return longest;
    }

    int fault(int what) {
        if (!in(what, 0, 2)) {
            return INVALID;
        }
        int[] found = read(now.twin());
        return found.length == 1 ? NONE : found[what];
    }

    int play() {
        if (read(now.twin()).length != 1) {
            return IMPOSSIBLE;
        }
        return change(s -> read(s)[0]);
    }
}
