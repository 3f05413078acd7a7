/**
 * A font of glyphs whose stems are hinted by hand for coarse screens.
 *
 * <p>All rows are made with the object and used again, since what the calls make is never given
 * back: no call makes an object or an array.
 */
public final class HintedStems {
    public static final int INVALID_ARGUMENT = -1000001;
    public static final int NOT_POSSIBLE = -1000002;
    public static final int LIMIT_REACHED = -1000003;
    public static final int NOT_FOUND = -1000004;

    private static final int GLYPHS = 8;
    private static final int STEMS = 6;
    private static final int STANDARDS = 3;
    private static final int SHEETS = 4;
    private static final int STATES = 4;
    private static final int SIGNS = 60;
    private static final int COLUMNS = 64;
    private static final int NUMBERS = 3;
    private static final int DIGITS = 4;

    private static final int EM = 1000;
    private static final int LEAST_ADVANCE = 100;
    private static final int GREATEST_ADVANCE = 1500;
    private static final int GREATEST_PLACE = 999;
    private static final int GREATEST_WIDTH = 300;
    private static final int LEAST_SIZE = 6;
    private static final int GREATEST_SIZE = 48;
    private static final int GREATEST_CUTOFF = 100;
    private static final int GREATEST_GAP = 3;
    private static final int LEAST_SIGN = 32;
    private static final int GREATEST_SIGN = 126;

    private static final int BY_LEFT = 0;
    private static final int BY_MIDDLE = 1;
    private static final int BY_RIGHT = 2;
    private static final int FOLLOWING = 3;

    private static final int NO_FAULT = 0;
    private static final int BAD_FORM = 1;
    private static final int REFUSED = 2;

    private final Font font = new Font();
    private final Font trial = new Font();
    private final Fit fit = new Fit();
    private final Orders orders = new Orders();
    private final History history = new History();

    /** Creates a font without glyphs. */
    public HintedStems() {
    }

    // ---- glyphs, stems, widths

    /** Adds a glyph and returns its number. */
    public int glyph(int advance) {
        history.note(font);
        return settled(font.addGlyph(advance));
    }

    /** Adds a stem to a glyph and returns the stem's number. */
    public int stem(int glyph, int place, int width) {
        history.note(font);
        return settled(font.addStem(glyph, place, width));
    }

    /** Cuts a stem out of a glyph and returns how many the glyph has then. */
    public int cut(int glyph, int stem) {
        history.note(font);
        return settled(font.cutStem(glyph, stem));
    }

    /** Hints a stem and returns the hint that it had. */
    public int hint(int glyph, int stem, int hint) {
        history.note(font);
        return settled(font.hintStem(glyph, stem, hint));
    }

    /** Adds a standard width and returns how many stems snap to it. */
    public int standard(int width) {
        history.note(font);
        return settled(font.addStandard(width));
    }

    /** Drops a standard width and returns how many there are then. */
    public int drop(int width) {
        history.note(font);
        return settled(font.dropStandard(width));
    }

    /** Makes the sheet of a size and returns how many sheets there are then. */
    public int make(int size) {
        history.note(font);
        return settled(font.makeSheet(size, fit));
    }

    /** Sets a setting and returns what it was. */
    public int set(int what, int value) {
        history.note(font);
        return settled(font.changeSetting(what, value));
    }

    // ---- what there is

    /** Returns something of a stem. */
    public int stemOf(int glyph, int stem, int what) {
        if (!font.hasStem(glyph, stem) || !within(what, 0, 6)) {
            return INVALID_ARGUMENT;
        }
        int at = glyph * STEMS + stem;
        int width = cell(font.widths, at);
        switch (what) {
            case 0:
                return cell(font.places, at);
            case 1:
                return width;
            case 2:
                return cell(font.hints, at);
            case 3:
                return font.hintedWidth(width);
            case 4:
                int snapped = font.snapOf(width);
                return snapped == 0 ? NOT_FOUND : snapped;
            case 5:
                return font.alikeWith(width);
            default:
                return stem == 0 ? NOT_FOUND : cell(font.places, at) - font.endOf(at - 1);
        }
    }

    /** Returns something of a stem at a size. */
    public int pixels(int glyph, int stem, int size, int what) {
        if (!font.hasStem(glyph, stem) || !isSize(size) || !within(what, 0, 3)) {
            return INVALID_ARGUMENT;
        }
        fit.lay(font, glyph, size);
        switch (what) {
            case 0:
                return cell(fit.lefts, stem);
            case 1:
                return cell(fit.wides, stem);
            case 2:
                return fit.pushed >> stem & 1;
            default:
                return fit.clipped >> stem & 1;
        }
    }

    /** Returns something of a glyph at a size. */
    public int glyphOf(int glyph, int size, int what) {
        if (!font.hasGlyph(glyph) || !isSize(size) || !within(what, 0, 5)) {
            return INVALID_ARGUMENT;
        }
        fit.lay(font, glyph, size);
        switch (what) {
            case 0:
                return fit.columns;
            case 1:
                return Long.bitCount(fit.lit);
            case 2:
                return fit.isClear() ? 1 : 0;
            case 3:
                return fit.pushed;
            case 4:
                return fit.clipped;
            default:
                return runsOf(fit.lit);
        }
    }

    /** Tells whether a column of a glyph is lit at a size. */
    public int lit(int glyph, int size, int column) {
        if (!font.hasGlyph(glyph) || !isSize(size) || !within(column, 0, COLUMNS - 1)) {
            return INVALID_ARGUMENT;
        }
        fit.lay(font, glyph, size);
        return column < fit.columns ? bitOf(fit.lit, column) : NOT_FOUND;
    }

    /** Tells whether a column was lit as the sheet of a size was made. */
    public int inSheet(int size, int glyph, int column) {
        if (!isSize(size) || !within(glyph, 0, GLYPHS - 1) || !within(column, 0, COLUMNS - 1)) {
            return INVALID_ARGUMENT;
        }
        Sheets sheets = font.sheets;
        int slot = sheets.slotOf(size);
        if (slot < 0 || glyph >= cell(sheets.glyphs, slot)) {
            return NOT_FOUND;
        }
        int at = slot * GLYPHS + glyph;
        return column < cell(sheets.columns, at) ? bitOf(sheets.litAt(at), column) : NOT_FOUND;
    }

    /** Returns something of a sheet. */
    public int sheetOf(int index, int what) {
        if (index < 0 || !within(what, 0, 3)) {
            return INVALID_ARGUMENT;
        }
        int slot = font.sheets.slotAt(index);
        if (slot < 0) {
            return NOT_FOUND;
        }
        switch (what) {
            case 0:
                return cell(font.sheets.sizes, slot);
            case 1:
                return cell(font.sheets.glyphs, slot);
            case 2:
                return font.isStale(slot, fit) ? 1 : 0;
            default:
                return font.sheets.litTogether(slot);
        }
    }

    // ---- what would be

    /** Tells whether a size is even. */
    public int even(int size) {
        if (!isSize(size)) {
            return INVALID_ARGUMENT;
        }
        return fit.isEven(font, size) ? 1 : 0;
    }

    /** Finds the least size at which a glyph is clear. */
    public int clear(int glyph) {
        if (!font.hasGlyph(glyph)) {
            return INVALID_ARGUMENT;
        }
        for (int size = LEAST_SIZE; size <= GREATEST_SIZE; size++) {
            fit.lay(font, glyph, size);
            if (fit.isClear()) {
                return size;
            }
        }
        return NOT_FOUND;
    }

    /** Finds the hint of a stem with which its glyph is clear at most sizes. */
    public int best(int glyph, int stem, int what) {
        if (!font.hasStem(glyph, stem) || !within(what, 0, 1)) {
            return INVALID_ARGUMENT;
        }
        trial.copy(font);
        int found = BY_LEFT;
        int most = -1;
        for (int hint = BY_LEFT; hint <= FOLLOWING; hint++) {
            put(trial.hints, glyph * STEMS + stem, hint);
            int sizes = clearSizes(trial, glyph);
            if (sizes > most) {
                most = sizes;
                found = hint;
            }
        }
        return what == 0 ? found : most;
    }

    /** Returns the bits of the float that is the mean width of all stems. */
    public int mean() {
        int stems = font.stemsTogether();
        if (stems <= 0) {
            return NOT_FOUND;
        }
        return bitsOf((float) font.widthsTogether() / (float) stems);
    }

    /** Returns a number of the font, its history or the text. */
    public int count(int what) {
        switch (what) {
            case 0:
                return font.glyphs;
            case 1:
                return font.stemsTogether();
            case 2:
                return font.standards;
            case 3:
                return font.sheets.held();
            case 4:
                return staleSheets();
            case 5:
                return font.unlikeWidths();
            case 6:
                return font.sheets.made;
            case 7:
                return history.kept;
            case 8:
                return orders.length;
            case 10:
            case 11:
            case 12:
                return what - 10 < font.standards ? cell(font.standard, what - 10) : NOT_FOUND;
            case 20:
                return font.cutoff;
            case 21:
                return font.leastGap;
            default:
                return INVALID_ARGUMENT;
        }
    }

    /** Restores the latest state of the history and returns how many are left. */
    public int undo() {
        return history.giveBack(font) ? history.kept : NOT_POSSIBLE;
    }

    // ---- texts

    /** Appends a character to the text and returns the text's length. */
    public int type(int character) {
        if (!within(character, LEAST_SIGN, GREATEST_SIGN)) {
            return INVALID_ARGUMENT;
        }
        return orders.append(character) ? orders.length : LIMIT_REACHED;
    }

    /** Empties the text and returns the length that it had. */
    public int clearText() {
        int had = orders.length;
        orders.length = 0;
        return had;
    }

    /** Tells about the fault of the text. */
    public int fault(int what) {
        if (!within(what, 0, 2)) {
            return INVALID_ARGUMENT;
        }
        trial.copy(font);
        orders.run(trial, fit);
        if (orders.reason == NO_FAULT) {
            return NOT_FOUND;
        }
        switch (what) {
            case 0:
                return orders.position;
            case 1:
                return orders.reason;
            default:
                return orders.cause;
        }
    }

    /** Does all orders of the text as one change and returns how many there are. */
    public int play() {
        trial.copy(font);
        orders.run(trial, fit);
        if (orders.reason != NO_FAULT) {
            return NOT_POSSIBLE;
        }
        history.note(font);
        font.copy(trial);
        return settled(orders.done);
    }

    // Every answer below 0 of a change is an error, after which nothing has changed.
    private int settled(int answer) {
        if (answer >= 0) {
            history.keep();
        }
        return answer;
    }

    private int clearSizes(Font of, int glyph) {
        int sizes = 0;
        for (int size = LEAST_SIZE; size <= GREATEST_SIZE; size++) {
            fit.lay(of, glyph, size);
            if (fit.isClear()) {
                sizes++;
            }
        }
        return sizes;
    }

    private int staleSheets() {
        int stale = 0;
        for (int slot = 0; slot < SHEETS; slot++) {
            if (font.sheets.isMade(slot) && font.isStale(slot, fit)) {
                stale++;
            }
        }
        return stale;
    }

    private static boolean within(int value, int least, int greatest) {
        return value >= least && value <= greatest;
    }

    private static boolean isSize(int size) {
        return within(size, LEAST_SIZE, GREATEST_SIZE);
    }

    private static int inPixels(int units, int size) {
        return Math.floorDiv(units * size + EM / 2, EM);
    }

    private static int cell(int[] row, int index) {
        return index >= 0 && index < row.length ? row[index] : 0;
    }

    private static void put(int[] row, int index, int value) {
        if (index >= 0 && index < row.length) {
            row[index] = value;
        }
    }

    private static void copyRow(int[] from, int[] to) {
        for (int k = 0; k < to.length && k < from.length; k++) {
            to[k] = from[k];
        }
    }

    private static int bitOf(long bits, int index) {
        return (int) (bits >>> index & 1L);
    }

    private static int runsOf(long bits) {
        return Long.bitCount(bits & ~(bits << 1));
    }

    // The library of the program has no way to a float's bits, so they are put together here; a
    // mean of widths is never below 1, so halving alone finds the exponent.
    private static int bitsOf(float value) {
        float rest = value;
        int exponent = 127;
        while (rest >= 2.0f && exponent < 254) {
            rest = rest / 2.0f;
            exponent++;
        }
        return exponent << 23 | (int) ((rest - 1.0f) * 8388608.0f);
    }

    /** All that a change records: glyphs, stems, standard widths, settings and sheets. */
    private static final class Font {
        private int glyphs;
        private int standards;
        private int cutoff = 20;
        private int leastGap = 1;
        private final int[] advances = new int[GLYPHS];
        private final int[] stems = new int[GLYPHS];
        private final int[] places = new int[GLYPHS * STEMS];
        // 0 where there is no stem, since a stem's width is at least 1.
        private final int[] widths = new int[GLYPHS * STEMS];
        private final int[] hints = new int[GLYPHS * STEMS];
        // The least first, so that of two that differ as much the lesser one is met first.
        private final int[] standard = new int[STANDARDS];
        private final Sheets sheets = new Sheets();

        void copy(Font other) {
            glyphs = other.glyphs;
            standards = other.standards;
            cutoff = other.cutoff;
            leastGap = other.leastGap;
            copyRow(other.advances, advances);
            copyRow(other.stems, stems);
            copyRow(other.places, places);
            copyRow(other.widths, widths);
            copyRow(other.hints, hints);
            copyRow(other.standard, standard);
            sheets.copy(other.sheets);
        }

        boolean hasGlyph(int glyph) {
            return within(glyph, 0, glyphs - 1);
        }

        boolean hasStem(int glyph, int stem) {
            return hasGlyph(glyph) && within(stem, 0, cell(stems, glyph) - 1);
        }

        int endOf(int at) {
            return cell(places, at) + cell(widths, at);
        }

        int addGlyph(int advance) {
            if (!within(advance, LEAST_ADVANCE, GREATEST_ADVANCE)) {
                return INVALID_ARGUMENT;
            }
            if (glyphs >= GLYPHS) {
                return LIMIT_REACHED;
            }
            int number = glyphs;
            put(advances, number, advance);
            glyphs++;
            return number;
        }

        int addStem(int glyph, int place, int width) {
            if (!hasGlyph(glyph) || !within(place, 0, GREATEST_PLACE)
                    || !within(width, 1, GREATEST_WIDTH)) {
                return INVALID_ARGUMENT;
            }
            int row = glyph * STEMS;
            int held = cell(stems, glyph);
            int number = 0;
            for (int k = 0; k < held; k++) {
                int other = cell(places, row + k);
                if (place < endOf(row + k) && other < place + width) {
                    return NOT_POSSIBLE;
                }
                if (other < place) {
                    number++;
                }
            }
            if (held >= STEMS) {
                return LIMIT_REACHED;
            }
            for (int k = held; k > number; k--) {
                moveStem(row + k - 1, row + k);
            }
            putStem(row + number, place, width, BY_LEFT);
            put(stems, glyph, held + 1);
            return number;
        }

        int cutStem(int glyph, int stem) {
            if (!hasStem(glyph, stem)) {
                return INVALID_ARGUMENT;
            }
            int row = glyph * STEMS;
            int last = cell(stems, glyph) - 1;
            for (int k = stem; k < last; k++) {
                moveStem(row + k + 1, row + k);
            }
            putStem(row + last, 0, 0, BY_LEFT);
            put(stems, glyph, last);
            return last;
        }

        private void moveStem(int from, int to) {
            putStem(to, cell(places, from), cell(widths, from), cell(hints, from));
        }

        private void putStem(int at, int place, int width, int hint) {
            put(places, at, place);
            put(widths, at, width);
            put(hints, at, hint);
        }

        int hintStem(int glyph, int stem, int hint) {
            if (!hasStem(glyph, stem) || !within(hint, BY_LEFT, FOLLOWING)) {
                return INVALID_ARGUMENT;
            }
            int at = glyph * STEMS + stem;
            int was = cell(hints, at);
            put(hints, at, hint);
            return was;
        }

        int addStandard(int width) {
            if (!within(width, 1, GREATEST_WIDTH)) {
                return INVALID_ARGUMENT;
            }
            if (standardAt(width) >= 0) {
                return NOT_POSSIBLE;
            }
            if (standards >= STANDARDS) {
                return LIMIT_REACHED;
            }
            int at = standards;
            for (; at > 0 && cell(standard, at - 1) > width; at--) {
                put(standard, at, cell(standard, at - 1));
            }
            put(standard, at, width);
            standards++;
            return snappingTo(width);
        }

        int dropStandard(int width) {
            if (!within(width, 1, GREATEST_WIDTH)) {
                return INVALID_ARGUMENT;
            }
            int at = standardAt(width);
            if (at < 0) {
                return NOT_POSSIBLE;
            }
            standards--;
            for (int k = at; k < standards; k++) {
                put(standard, k, cell(standard, k + 1));
            }
            put(standard, standards, 0);
            return standards;
        }

        private int standardAt(int width) {
            for (int k = 0; k < standards; k++) {
                if (cell(standard, k) == width) {
                    return k;
                }
            }
            return -1;
        }

        int changeSetting(int what, int value) {
            if (what == 0 && within(value, 0, GREATEST_CUTOFF)) {
                int was = cutoff;
                cutoff = value;
                return was;
            }
            if (what == 1 && within(value, 0, GREATEST_GAP)) {
                int was = leastGap;
                leastGap = value;
                return was;
            }
            return INVALID_ARGUMENT;
        }

        int makeSheet(int size, Fit fit) {
            if (!isSize(size)) {
                return INVALID_ARGUMENT;
            }
            int slot = sheets.slotToMake(size);
            sheets.begin(slot, size, glyphs);
            for (int glyph = 0; glyph < glyphs; glyph++) {
                fit.lay(this, glyph, size);
                sheets.keep(slot * GLYPHS + glyph, fit.columns, fit.lit);
            }
            return sheets.held();
        }

        boolean isStale(int slot, Fit fit) {
            int kept = cell(sheets.glyphs, slot);
            if (kept != glyphs) {
                return true;
            }
            for (int glyph = 0; glyph < kept; glyph++) {
                fit.lay(this, glyph, cell(sheets.sizes, slot));
                int at = slot * GLYPHS + glyph;
                if (fit.columns != cell(sheets.columns, at) || fit.lit != sheets.litAt(at)) {
                    return true;
                }
            }
            return false;
        }

        // The standard width to which a width snaps, or 0.
        int snapOf(int width) {
            int snapped = 0;
            int least = cutoff + 1;
            for (int k = 0; k < standards; k++) {
                int differs = Math.abs(cell(standard, k) - width);
                if (differs < least) {
                    least = differs;
                    snapped = cell(standard, k);
                }
            }
            return snapped;
        }

        int hintedWidth(int width) {
            int snapped = snapOf(width);
            return snapped == 0 ? width : snapped;
        }

        // How many pixels a stem of a width has at a size.
        int wideOf(int width, int size) {
            int snapped = snapOf(width);
            return Math.max(1, inPixels(snapped == 0 ? width : snapped, size));
        }

        int alikeWith(int width) {
            int hinted = hintedWidth(width);
            int alike = 0;
            for (int k = 0; k < widths.length; k++) {
                if (widths[k] > 0 && hintedWidth(widths[k]) == hinted) {
                    alike++;
                }
            }
            return alike;
        }

        private int snappingTo(int standardWidth) {
            int snapping = 0;
            for (int k = 0; k < widths.length; k++) {
                if (widths[k] > 0 && snapOf(widths[k]) == standardWidth) {
                    snapping++;
                }
            }
            return snapping;
        }

        int unlikeWidths() {
            int unlike = 0;
            for (int k = 0; k < widths.length; k++) {
                if (widths[k] > 0 && !isAlikeAhead(k)) {
                    unlike++;
                }
            }
            return unlike;
        }

        private boolean isAlikeAhead(int at) {
            int hinted = hintedWidth(cell(widths, at));
            for (int k = 0; k < at && k < widths.length; k++) {
                if (widths[k] > 0 && hintedWidth(widths[k]) == hinted) {
                    return true;
                }
            }
            return false;
        }

        int stemsTogether() {
            int together = 0;
            for (int k = 0; k < stems.length; k++) {
                together += stems[k];
            }
            return together;
        }

        int widthsTogether() {
            int together = 0;
            for (int k = 0; k < widths.length; k++) {
                together += widths[k];
            }
            return together;
        }
    }

    /**
     * The sheets in slots. A slot's turn is the number of the making that filled it, 0 of an empty
     * one, so that turns tell which sheet was made longest ago and nothing ever moves.
     */
    private static final class Sheets {
        private int made;
        private final int[] turns = new int[SHEETS];
        private final int[] sizes = new int[SHEETS];
        private final int[] glyphs = new int[SHEETS];
        private final int[] columns = new int[SHEETS * GLYPHS];
        private final long[] lit = new long[SHEETS * GLYPHS];

        void copy(Sheets other) {
            made = other.made;
            copyRow(other.turns, turns);
            copyRow(other.sizes, sizes);
            copyRow(other.glyphs, glyphs);
            copyRow(other.columns, columns);
            for (int k = 0; k < lit.length && k < other.lit.length; k++) {
                lit[k] = other.lit[k];
            }
        }

        boolean isMade(int slot) {
            return cell(turns, slot) > 0;
        }

        int held() {
            int held = 0;
            for (int slot = 0; slot < SHEETS; slot++) {
                if (isMade(slot)) {
                    held++;
                }
            }
            return held;
        }

        // The slot of a size's sheet, or -1.
        int slotOf(int size) {
            for (int slot = 0; slot < SHEETS; slot++) {
                if (isMade(slot) && cell(sizes, slot) == size) {
                    return slot;
                }
            }
            return -1;
        }

        // The slot of the sheet ahead of which so many others were made, or -1.
        int slotAt(int index) {
            for (int slot = 0; slot < SHEETS; slot++) {
                if (isMade(slot) && olderThan(slot) == index) {
                    return slot;
                }
            }
            return -1;
        }

        private int olderThan(int slot) {
            int older = 0;
            for (int other = 0; other < SHEETS; other++) {
                if (isMade(other) && cell(turns, other) < cell(turns, slot)) {
                    older++;
                }
            }
            return older;
        }

        // An empty slot has the turn 0, so it is taken ahead of the oldest sheet's.
        int slotToMake(int size) {
            int slot = slotOf(size);
            if (slot >= 0) {
                return slot;
            }
            int oldest = 0;
            for (int other = 1; other < SHEETS; other++) {
                if (cell(turns, other) < cell(turns, oldest)) {
                    oldest = other;
                }
            }
            return oldest;
        }

        void begin(int slot, int size, int glyphCount) {
            made++;
            put(turns, slot, made);
            put(sizes, slot, size);
            put(glyphs, slot, glyphCount);
        }

        void keep(int at, int columnCount, long litColumns) {
            put(columns, at, columnCount);
            if (at >= 0 && at < lit.length) {
                lit[at] = litColumns;
            }
        }

        long litAt(int at) {
            return at >= 0 && at < lit.length ? lit[at] : 0L;
        }

        int litTogether(int slot) {
            int together = 0;
            for (int glyph = 0; glyph < cell(glyphs, slot); glyph++) {
                together += Long.bitCount(litAt(slot * GLYPHS + glyph));
            }
            return together;
        }
    }

    /** What a glyph comes to at a size; each call of lay puts the next one in its place. */
    private static final class Fit {
        private int columns;
        private int pushed;
        private int clipped;
        private long lit;
        private final int[] lefts = new int[STEMS];
        private final int[] wides = new int[STEMS];
        private final int[] allWides = new int[GLYPHS * STEMS];

        void lay(Font font, int glyph, int size) {
            int stems = cell(font.stems, glyph);
            columns = columnsOf(cell(font.advances, glyph), size);
            pushed = 0;
            clipped = 0;
            lit = 0L;
            int right = 0;
            int end = 0;
            for (int k = 0; k < stems; k++) {
                int at = glyph * STEMS + k;
                int gap = cell(font.places, at) - end;
                int wide = font.wideOf(cell(font.widths, at), size);
                int left;
                if (k > 0 && cell(font.hints, at) == FOLLOWING) {
                    left = right + Math.max(inPixels(gap, size), font.leastGap);
                } else {
                    left = rounded(font, at, size, wide);
                }
                int least = right + (gap > 0 ? 1 : 0);
                if (k > 0 && left < least) {
                    left = least;
                    pushed |= 1 << k;
                }
                light(k, left, wide);
                right = left + wide;
                end = font.endOf(at);
            }
        }

        private void light(int stem, int left, int wide) {
            put(lefts, stem, left);
            put(wides, stem, wide);
            if (left < 0 || left + wide > columns) {
                clipped |= 1 << stem;
            }
            int behind = Math.min(left + wide, columns);
            for (int column = Math.max(left, 0); column < behind; column++) {
                lit |= 1L << column;
            }
        }

        boolean isClear() {
            return pushed == 0 && clipped == 0;
        }

        boolean isEven(Font font, int size) {
            for (int k = 0; k < allWides.length; k++) {
                allWides[k] = font.wideOf(cell(font.widths, k), size);
            }
            for (int k = 1; k < allWides.length; k++) {
                if (!isEvenAhead(font, k)) {
                    return false;
                }
            }
            return true;
        }

        private boolean isEvenAhead(Font font, int at) {
            int width = cell(font.widths, at);
            for (int k = 0; k < at && width > 0; k++) {
                int other = cell(font.widths, k);
                if (other > 0 && Math.abs(other - width) <= font.cutoff
                        && cell(allWides, k) != cell(allWides, at)) {
                    return false;
                }
            }
            return true;
        }

        private static int columnsOf(int advance, int size) {
            return Math.max(1, Math.min(COLUMNS, inPixels(advance, size)));
        }

        // The left pixel by an edge or the middle; a stem that follows none has its left edge.
        private static int rounded(Font font, int at, int size, int wide) {
            int place = cell(font.places, at);
            int width = cell(font.widths, at);
            switch (cell(font.hints, at)) {
                case BY_MIDDLE:
                    return Math.floorDiv(inPixels(2 * place + width, size) - wide, 2);
                case BY_RIGHT:
                    return inPixels(place + width, size) - wide;
                default:
                    return inPixels(place, size);
            }
        }
    }

    /** The text of orders, and what the latest run through it found. */
    private static final class Orders {
        private final int[] signs = new int[SIGNS];
        private int length;
        private final int[] numbers = new int[NUMBERS];
        // The place behind the order that was read last, or at which that one breaks off.
        private int reached;
        private int done;
        private int position;
        private int reason;
        private int cause;

        boolean append(int sign) {
            if (length >= SIGNS) {
                return false;
            }
            put(signs, length, sign);
            length++;
            return true;
        }

        // Does the orders on a font up to the first that is not possible.
        void run(Font font, Fit fit) {
            done = 0;
            reason = NO_FAULT;
            int at = 0;
            for (int round = 0; round < SIGNS && at < length; round++) {
                if (!isOrder(at)) {
                    tell(at, BAD_FORM, reached - at);
                    return;
                }
                int answer = carryOut(signAt(at), font, fit);
                if (answer < 0) {
                    tell(at, REFUSED, answer);
                    return;
                }
                done++;
                at = reached;
            }
        }

        private void tell(int at, int why, int because) {
            position = at;
            reason = why;
            cause = because;
        }

        // No sign of a text is 0, so 0 stands for its end.
        private int signAt(int at) {
            return at < length ? cell(signs, at) : 0;
        }

        private boolean isOrder(int start) {
            reached = start;
            int due = numbersOf(signAt(start));
            if (due == 0) {
                return false;
            }
            reached++;
            for (int k = 0; k < due; k++) {
                if (!isNumber(k) || signAt(reached) != (k + 1 < due ? ',' : ';')) {
                    return false;
                }
                reached++;
            }
            return true;
        }

        // How many numbers an order has, 0 if no order begins so.
        private static int numbersOf(int letter) {
            switch (letter) {
                case 'g':
                case 'w':
                case 'm':
                    return 1;
                case 's':
                case 'h':
                    return 3;
                default:
                    return 0;
            }
        }

        private boolean isNumber(int which) {
            int number = 0;
            int digits = 0;
            while (digits < DIGITS && within(signAt(reached), '0', '9')) {
                number = number * 10 + signAt(reached) - '0';
                digits++;
                reached++;
            }
            put(numbers, which, number);
            return digits > 0;
        }

        private int carryOut(int letter, Font font, Fit fit) {
            int first = cell(numbers, 0);
            switch (letter) {
                case 'g':
                    return font.addGlyph(first);
                case 's':
                    return font.addStem(first, cell(numbers, 1), cell(numbers, 2));
                case 'h':
                    return font.hintStem(first, cell(numbers, 1), cell(numbers, 2));
                case 'w':
                    return font.addStandard(first);
                default:
                    return font.makeSheet(first, fit);
            }
        }
    }

    /**
     * The latest states, in a ring that has one slot more than states are kept: each change notes
     * what was before it in the spare slot, and keeps that once it has come about.
     */
    private static final class History {
        private final Font[] slots = new Font[STATES + 1];
        private int oldest;
        private int kept;

        History() {
            for (int k = 0; k < slots.length; k++) {
                slots[k] = new Font();
            }
        }

        void note(Font font) {
            Font slot = slotAt(kept);
            if (slot != null) {
                slot.copy(font);
            }
        }

        void keep() {
            if (kept < STATES) {
                kept++;
            } else {
                oldest = (oldest + 1) % (STATES + 1);
            }
        }

        boolean giveBack(Font font) {
            Font slot = slotAt(kept - 1);
            if (kept <= 0 || slot == null) {
                return false;
            }
            font.copy(slot);
            kept--;
            return true;
        }

        private Font slotAt(int age) {
            int at = Math.floorMod(oldest + age, STATES + 1);
            return at >= 0 && at < slots.length ? slots[at] : null;
        }
    }
}
