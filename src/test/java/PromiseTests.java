/** The promises 1 to 25, each by ordinary inputs, the edges that the document names, wrong inputs. */
public final class PromiseTests {
    private static final int INVALID = -1000001;
    private static final int IMPOSSIBLE = -1000002;
    private static final int LIMIT = -1000003;
    private static final int NONE = -1000004;
    private static final int LEAST = Integer.MIN_VALUE;
    private static final int MOST = Integer.MAX_VALUE;

    private PromiseTests() {
    }

    public static void main(String[] args) {
        newObject();
        glyphs();
        stems();
        cuts();
        hints();
        standards();
        drops();
        sheets();
        sheetsFall();
        settings();
        stemsTold();
        pixelsByHints();
        pixelsFollowing();
        pixelsPushed();
        pixelsCut();
        glyphsTold();
        columnsLit();
        sheetColumns();
        sheetsTold();
        sheetsStale();
        evenSizes();
        clearSizes();
        bestHints();
        means();
        counts();
        undoing();
        undoingAll();
        undoingEach();
        typing();
        emptying();
        faultsOfForm();
        faultsOfOrders();
        playing();
        errorsChangeNothing();
        Checks.end("PromiseTests");
    }

    private static void due(String call, long got, long want) {
        Checks.due(call, got, want);
    }

    private static void write(HintedStems x, String text) {
        x.clearText();
        for (int k = 0; k < text.length(); k++) {
            x.type(text.charAt(k));
        }
    }

    private static HintedStems font(int... advances) {
        HintedStems x = new HintedStems();
        for (int advance : advances) {
            x.glyph(advance);
        }
        return x;
    }

    private static void newObject() {
        Checks.about("promise 1");
        HintedStems x = new HintedStems();
        for (int what = 0; what <= 8; what++) {
            due("count(" + what + ")", x.count(what), 0);
        }
        due("count(20)", x.count(20), 20);
        due("count(21)", x.count(21), 1);
        due("undo()", x.undo(), IMPOSSIBLE);
        due("glyphOf(0, 10, 0)", x.glyphOf(0, 10, 0), INVALID);
        HintedStems other = new HintedStems();
        other.glyph(500);
        due("count(0) of the first", x.count(0), 0);
        due("count(0) of the other", other.count(0), 1);
    }

    private static void glyphs() {
        Checks.about("promise 2");
        HintedStems x = new HintedStems();
        for (int wrong : new int[] {99, 0, -1, 1501, LEAST, MOST}) {
            due("glyph(" + wrong + ")", x.glyph(wrong), INVALID);
        }
        due("count(0)", x.count(0), 0);
        due("glyph(100)", x.glyph(100), 0);
        due("glyph(1500)", x.glyph(1500), 1);
        for (int k = 2; k < 8; k++) {
            due("glyph(600)", x.glyph(600), k);
        }
        due("glyph(600), a ninth", x.glyph(600), LIMIT);
        due("glyph(99), a ninth", x.glyph(99), INVALID);
        due("count(0)", x.count(0), 8);
        due("count(7)", x.count(7), 4);
        due("glyphOf(7, 10, 0)", x.glyphOf(7, 10, 0), 6);
    }

    private static void stems() {
        Checks.about("promise 3");
        HintedStems x = font(600, 700);
        int[][] wrong = {{-1, 0, 1}, {2, 0, 1}, {8, 0, 1}, {MOST, 0, 1}, {LEAST, 0, 1}, {0, -1, 1},
            {0, 1000, 1}, {0, MOST, 1}, {0, LEAST, 1}, {0, 0, 0}, {0, 0, 301}, {0, 0, MOST},
            {0, 0, LEAST}, {0, MOST, MOST}};
        for (int[] w : wrong) {
            due("stem(" + w[0] + ", " + w[1] + ", " + w[2] + ")", x.stem(w[0], w[1], w[2]), INVALID);
        }
        due("stem(0, 999, 300)", x.stem(0, 999, 300), 0);
        due("stem(0, 0, 1)", x.stem(0, 0, 1), 0);
        due("stemOf(0, 1, 0)", x.stemOf(0, 1, 0), 999);
        due("stem(0, 100, 50)", x.stem(0, 100, 50), 1);
        due("hint(0, 1, 2)", x.hint(0, 1, 2), 0);
        due("stem(0, 149, 5)", x.stem(0, 149, 5), IMPOSSIBLE);
        due("stem(0, 95, 6)", x.stem(0, 95, 6), IMPOSSIBLE);
        due("stem(0, 100, 50)", x.stem(0, 100, 50), IMPOSSIBLE);
        due("stem(0, 120, 5)", x.stem(0, 120, 5), IMPOSSIBLE);
        due("stem(0, 90, 100)", x.stem(0, 90, 100), IMPOSSIBLE);
        due("stem(0, 150, 5)", x.stem(0, 150, 5), 2);
        due("stem(0, 95, 5)", x.stem(0, 95, 5), 1);
        due("stemOf(0, 2, 2), moved with its hint", x.stemOf(0, 2, 2), 2);
        due("stemOf(0, 2, 1), moved with its width", x.stemOf(0, 2, 1), 50);
        due("stemOf(0, 1, 2), hinted by its left edge", x.stemOf(0, 1, 2), 0);
        due("stem(0, 500, 5)", x.stem(0, 500, 5), 4);
        due("count(1)", x.count(1), 6);
        due("stem(0, 600, 5), a seventh", x.stem(0, 600, 5), LIMIT);
        due("stem(0, 500, 5), a seventh that overlaps", x.stem(0, 500, 5), IMPOSSIBLE);
        due("stem(0, 500, 0), a seventh out of range", x.stem(0, 500, 0), INVALID);
        due("stem(1, 100, 50)", x.stem(1, 100, 50), 0);
        due("stemOf(1, 0, 2)", x.stemOf(1, 0, 2), 0);
        for (int k = 0; k < 6; k++) {
            due("stemOf(0, " + k + ", 0)", x.stemOf(0, k, 0),
                    new int[] {0, 95, 100, 150, 500, 999}[k]);
        }
    }

    private static void cuts() {
        Checks.about("promise 4");
        HintedStems x = font(600, 600);
        due("cut(0, 0)", x.cut(0, 0), INVALID);
        for (int k = 0; k < 6; k++) {
            x.stem(0, 100 * k, 10 + k);
            x.hint(0, k, k % 4);
        }
        x.stem(1, 7, 8);
        int[][] wrong = {{-1, 0}, {2, 0}, {0, -1}, {0, 6}, {1, 1}, {MOST, 0}, {0, MOST}, {LEAST, 0},
            {0, LEAST}};
        for (int[] w : wrong) {
            due("cut(" + w[0] + ", " + w[1] + ")", x.cut(w[0], w[1]), INVALID);
        }
        due("cut(0, 2)", x.cut(0, 2), 5);
        due("stemOf(0, 2, 0)", x.stemOf(0, 2, 0), 300);
        due("stemOf(0, 2, 1)", x.stemOf(0, 2, 1), 13);
        due("stemOf(0, 2, 2)", x.stemOf(0, 2, 2), 3);
        due("stemOf(0, 4, 0)", x.stemOf(0, 4, 0), 500);
        due("stemOf(0, 5, 0)", x.stemOf(0, 5, 0), INVALID);
        due("stemOf(0, 1, 0)", x.stemOf(0, 1, 0), 100);
        due("cut(0, 4)", x.cut(0, 4), 4);
        due("cut(0, 0)", x.cut(0, 0), 3);
        due("stemOf(0, 0, 0)", x.stemOf(0, 0, 0), 100);
        due("count(1)", x.count(1), 4);
        due("stemOf(1, 0, 0)", x.stemOf(1, 0, 0), 7);
        due("cut(1, 0)", x.cut(1, 0), 0);
        due("cut(1, 0)", x.cut(1, 0), INVALID);
        due("stem(0, 0, 100)", x.stem(0, 0, 100), 0);
        due("mean()", x.mean(), Float.floatToIntBits((11f + 13f + 14f + 100f) / 4f));
    }

    private static void hints() {
        Checks.about("promise 5");
        HintedStems x = font(600);
        due("hint(0, 0, 0)", x.hint(0, 0, 0), INVALID);
        x.stem(0, 100, 50);
        x.stem(0, 200, 50);
        int[][] wrong = {{-1, 0, 0}, {1, 0, 0}, {0, -1, 0}, {0, 2, 0}, {0, 0, -1}, {0, 0, 4},
            {MOST, 0, 0}, {0, MOST, 0}, {0, 0, MOST}, {LEAST, LEAST, LEAST}};
        for (int[] w : wrong) {
            due("hint(" + w[0] + ", " + w[1] + ", " + w[2] + ")", x.hint(w[0], w[1], w[2]), INVALID);
        }
        due("hint(0, 1, 3)", x.hint(0, 1, 3), 0);
        due("hint(0, 1, 2)", x.hint(0, 1, 2), 3);
        due("hint(0, 1, 1)", x.hint(0, 1, 1), 2);
        due("hint(0, 1, 0)", x.hint(0, 1, 0), 1);
        due("hint(0, 1, 0)", x.hint(0, 1, 0), 0);
        due("hint(0, 0, 3), with none to its left", x.hint(0, 0, 3), 0);
        due("stemOf(0, 0, 2)", x.stemOf(0, 0, 2), 3);
        due("stemOf(0, 1, 2)", x.stemOf(0, 1, 2), 0);
    }

    private static void standards() {
        Checks.about("promise 6");
        HintedStems x = font(600, 600);
        x.stem(0, 0, 80);
        x.stem(0, 200, 100);
        x.stem(0, 400, 121);
        x.stem(1, 0, 79);
        for (int wrong : new int[] {0, -1, 301, LEAST, MOST}) {
            due("standard(" + wrong + ")", x.standard(wrong), INVALID);
        }
        due("standard(100), up to 20 beside it", x.standard(100), 2);
        due("standard(100)", x.standard(100), IMPOSSIBLE);
        due("standard(142)", x.standard(142), 0);
        due("stemOf(0, 2, 4)", x.stemOf(0, 2, 4), NONE);
        due("standard(60), as far from 80 as 100 is", x.standard(60), 2);
        due("stemOf(0, 0, 4), of two the lesser one", x.stemOf(0, 0, 4), 60);
        due("stemOf(0, 1, 4)", x.stemOf(0, 1, 4), 100);
        due("standard(300)", x.standard(300), LIMIT);
        due("standard(142)", x.standard(142), IMPOSSIBLE);
        due("standard(301)", x.standard(301), INVALID);
        due("count(10)", x.count(10), 60);
        due("count(11)", x.count(11), 100);
        due("count(12)", x.count(12), 142);
        HintedStems y = font(600);
        y.stem(0, 0, 80);
        due("standard(300)", y.standard(300), 0);
        due("standard(1)", y.standard(1), 0);
        due("standard(80)", y.standard(80), 1);
        HintedStems thin = font(600);
        thin.stem(0, 0, 1);
        thin.stem(0, 5, 1);
        due("standard(2), of the thinnest", thin.standard(2), 2);
        HintedStems z = font(600);
        z.stem(0, 0, 80);
        z.standard(60);
        due("standard(100), as far as the lesser one", z.standard(100), 0);
    }

    private static void drops() {
        Checks.about("promise 7");
        HintedStems x = font(600);
        x.stem(0, 0, 80);
        for (int wrong : new int[] {0, -1, 301, LEAST, MOST}) {
            due("drop(" + wrong + ")", x.drop(wrong), INVALID);
        }
        due("drop(80)", x.drop(80), IMPOSSIBLE);
        x.standard(90);
        x.standard(70);
        x.standard(300);
        due("stemOf(0, 0, 3)", x.stemOf(0, 0, 3), 70);
        due("drop(80)", x.drop(80), IMPOSSIBLE);
        due("drop(70)", x.drop(70), 2);
        due("stemOf(0, 0, 3)", x.stemOf(0, 0, 3), 90);
        due("count(10)", x.count(10), 90);
        due("count(11)", x.count(11), 300);
        due("count(12)", x.count(12), NONE);
        due("drop(300)", x.drop(300), 1);
        due("drop(300)", x.drop(300), IMPOSSIBLE);
        due("drop(90)", x.drop(90), 0);
        x.standard(1);
        due("drop(1)", x.drop(1), 0);
        due("stemOf(0, 0, 3)", x.stemOf(0, 0, 3), 80);
        due("count(10)", x.count(10), NONE);
    }

    private static void sheets() {
        Checks.about("promise 8");
        HintedStems x = font(600);
        x.stem(0, 100, 100);
        for (int wrong : new int[] {5, 0, -1, 49, LEAST, MOST}) {
            due("make(" + wrong + ")", x.make(wrong), INVALID);
        }
        due("count(6)", x.count(6), 0);
        due("make(6)", x.make(6), 1);
        due("make(48)", x.make(48), 2);
        due("make(6), anew", x.make(6), 2);
        due("sheetOf(0, 0)", x.sheetOf(0, 0), 48);
        due("sheetOf(1, 0)", x.sheetOf(1, 0), 6);
        due("count(6), the one made anew too", x.count(6), 3);
        due("inSheet(6, 0, 1)", x.inSheet(6, 0, 1), 1);
        due("inSheet(6, 0, 0)", x.inSheet(6, 0, 0), 0);
        x.hint(0, 0, 1);
        x.cut(0, 0);
        x.stem(0, 0, 100);
        due("inSheet(6, 0, 1), as it was", x.inSheet(6, 0, 1), 1);
        due("make(6)", x.make(6), 2);
        due("inSheet(6, 0, 1), anew", x.inSheet(6, 0, 1), 0);
        due("inSheet(6, 0, 0), anew", x.inSheet(6, 0, 0), 1);
    }

    private static void sheetsFall() {
        Checks.about("promise 8, a fifth sheet");
        HintedStems x = font(600);
        due("make(10)", x.make(10), 1);
        due("make(11)", x.make(11), 2);
        due("make(12)", x.make(12), 3);
        due("make(13)", x.make(13), 4);
        due("make(10), anew", x.make(10), 4);
        due("make(14), a fifth", x.make(14), 4);
        due("inSheet(11, 0, 0), gone", x.inSheet(11, 0, 0), NONE);
        due("inSheet(10, 0, 0), made anew", x.inSheet(10, 0, 0), 0);
        int[] left = {12, 13, 10, 14};
        for (int k = 0; k < 4; k++) {
            due("sheetOf(" + k + ", 0)", x.sheetOf(k, 0), left[k]);
        }
        due("sheetOf(4, 0)", x.sheetOf(4, 0), NONE);
        due("count(6)", x.count(6), 6);
        due("undo()", x.undo(), 3);
        due("sheetOf(0, 0), as before", x.sheetOf(0, 0), 11);
        due("count(6)", x.count(6), 5);
        due("undo()", x.undo(), 2);
        due("sheetOf(0, 0), as before", x.sheetOf(0, 0), 10);
    }

    private static void settings() {
        Checks.about("promise 9");
        HintedStems x = new HintedStems();
        int[][] wrong = {{-1, 0}, {2, 0}, {0, -1}, {0, 101}, {1, -1}, {1, 4}, {MOST, 0}, {LEAST, 0},
            {0, MOST}, {1, MOST}, {0, LEAST}, {1, LEAST}};
        for (int[] w : wrong) {
            due("set(" + w[0] + ", " + w[1] + ")", x.set(w[0], w[1]), INVALID);
        }
        due("set(0, 0)", x.set(0, 0), 20);
        due("set(0, 100)", x.set(0, 100), 0);
        due("set(0, 100)", x.set(0, 100), 100);
        due("set(1, 0)", x.set(1, 0), 1);
        due("set(1, 3)", x.set(1, 3), 0);
        due("count(20)", x.count(20), 100);
        due("count(21)", x.count(21), 3);
        due("count(7), one as it was too", x.count(7), 4);
        due("undo()", x.undo(), 3);
        due("count(21)", x.count(21), 0);
    }

    private static void stemsTold() {
        Checks.about("promise 10");
        HintedStems x = font(600, 800);
        x.stem(0, 100, 80);
        x.stem(0, 180, 60);
        x.stem(0, 300, 110);
        x.stem(1, 20, 95);
        x.stem(1, 400, 200);
        x.hint(0, 1, 3);
        x.standard(90);
        int[][] told = {{100, 80, 0, 90, 90, 3, NONE}, {180, 60, 3, 60, NONE, 1, 0},
            {300, 110, 0, 90, 90, 3, 60}};
        for (int s = 0; s < 3; s++) {
            for (int what = 0; what < 7; what++) {
                due("stemOf(0, " + s + ", " + what + ")", x.stemOf(0, s, what), told[s][what]);
            }
        }
        due("stemOf(1, 0, 5)", x.stemOf(1, 0, 5), 3);
        due("stemOf(1, 1, 6)", x.stemOf(1, 1, 6), 285);
        due("stemOf(1, 0, 6)", x.stemOf(1, 0, 6), NONE);
        HintedStems thin = font(600);
        thin.stem(0, 0, 1);
        thin.stem(0, 5, 1);
        thin.stem(0, 9, 2);
        due("stemOf(0, 1, 5), of the thinnest", thin.stemOf(0, 1, 5), 2);
        due("count(5), of the thinnest", thin.count(5), 2);
        x.stem(1, 700, 90);
        due("stemOf(0, 0, 5), with one that has the width", x.stemOf(0, 0, 5), 4);
        int[][] wrong = {{-1, 0, 0}, {2, 0, 0}, {0, -1, 0}, {0, 3, 0}, {0, 0, -1}, {0, 0, 7},
            {MOST, 0, 0}, {0, MOST, 0}, {0, 0, MOST}, {LEAST, 0, 0}, {0, LEAST, 0}, {0, 0, LEAST},
            {1, 3, 4}, {7, 5, 6}};
        for (int[] w : wrong) {
            due("stemOf(" + w[0] + ", " + w[1] + ", " + w[2] + ")", x.stemOf(w[0], w[1], w[2]),
                    INVALID);
        }
    }

    private static void pixelsByHints() {
        Checks.about("promise 11, the hints 0 to 2");
        HintedStems x = font(1000);
        x.stem(0, 150, 90);
        // at 10: the place 1.5 is told as 2, the width 0.9 as 1, the right edge 2.4 as 2
        due("pixels(0, 0, 10, 0)", x.pixels(0, 0, 10, 0), 2);
        due("pixels(0, 0, 10, 1)", x.pixels(0, 0, 10, 1), 1);
        x.hint(0, 0, 2);
        due("pixels(0, 0, 10, 0), by the right", x.pixels(0, 0, 10, 0), 1);
        x.hint(0, 0, 1);
        // 390 units are 4 pixels, less 1, halved
        due("pixels(0, 0, 10, 0), by the middle", x.pixels(0, 0, 10, 0), 1);
        // at 48: the place 7.2, the width 4.32, the right edge 11.52, the doubled middle 18.72
        due("pixels(0, 0, 48, 1)", x.pixels(0, 0, 48, 1), 4);
        due("pixels(0, 0, 48, 0), by the middle", x.pixels(0, 0, 48, 0), 7);
        x.hint(0, 0, 2);
        due("pixels(0, 0, 48, 0), by the right", x.pixels(0, 0, 48, 0), 8);
        x.hint(0, 0, 0);
        due("pixels(0, 0, 48, 0), by the left", x.pixels(0, 0, 48, 0), 7);
        // the hinted width counts for the pixels, the own one for the edges
        x.standard(110);
        due("pixels(0, 0, 48, 1), hinted", x.pixels(0, 0, 48, 1), 5);
        x.hint(0, 0, 2);
        due("pixels(0, 0, 48, 0), hinted, by the right", x.pixels(0, 0, 48, 0), 7);
        x.hint(0, 0, 1);
        due("pixels(0, 0, 48, 0), hinted, by the middle", x.pixels(0, 0, 48, 0), 7);
        HintedStems y = font(1000);
        y.stem(0, 0, 5);
        y.hint(0, 0, 1);
        due("pixels(0, 0, 6, 1), at least 1", y.pixels(0, 0, 6, 1), 1);
        due("pixels(0, 0, 6, 0), rounded down below 0", y.pixels(0, 0, 6, 0), -1);
        due("pixels(0, 0, 6, 3)", y.pixels(0, 0, 6, 3), 1);
        y.hint(0, 0, 3);
        due("pixels(0, 0, 6, 0), follows none", y.pixels(0, 0, 6, 0), 0);
        int[][] wrong = {{-1, 0, 6, 0}, {1, 0, 6, 0}, {0, -1, 6, 0}, {0, 1, 6, 0}, {0, 0, 5, 0},
            {0, 0, 49, 0}, {0, 0, 6, -1}, {0, 0, 6, 4}, {MOST, 0, 6, 0}, {0, MOST, 6, 0},
            {0, 0, MOST, 0}, {0, 0, 6, MOST}, {LEAST, LEAST, LEAST, LEAST}};
        for (int[] w : wrong) {
            due("pixels(" + w[0] + ", " + w[1] + ", " + w[2] + ", " + w[3] + ")",
                    x.pixels(w[0], w[1], w[2], w[3]), INVALID);
        }
    }

    private static void pixelsFollowing() {
        Checks.about("promise 11, the hint 3");
        HintedStems x = font(1000);
        x.stem(0, 130, 90);
        x.stem(0, 350, 90);
        due("pixels(0, 1, 20, 0), by the left", x.pixels(0, 1, 20, 0), 7);
        x.hint(0, 1, 3);
        // at 20: the first one at 3 (2.6) and 2 wide (1.8), the gap of 130 units is 3 (2.6)
        due("pixels(0, 1, 20, 0)", x.pixels(0, 1, 20, 0), 8);
        x.hint(0, 0, 2);
        // by its right edge (4.4) the first one is at 2
        due("pixels(0, 1, 20, 0), with the first one", x.pixels(0, 1, 20, 0), 7);
        x.standard(75);
        // 1.5 pixels are 2, as before; at 30 they are 2 and 3
        due("pixels(0, 1, 30, 0)", x.pixels(0, 1, 30, 0), 5 + 2 + 4);
        x.drop(75);
        due("pixels(0, 1, 30, 0), not snapped", x.pixels(0, 1, 30, 0), 4 + 3 + 4);
        due("pixels(0, 1, 30, 2)", x.pixels(0, 1, 30, 2), 0);
    }

    private static void pixelsPushed() {
        Checks.about("promise 11, pushed");
        HintedStems x = font(1000);
        x.stem(0, 100, 100);
        x.stem(0, 201, 100);
        // at 10: 1 and 1 wide, then 2, which is pushed to 3 since their gap is above 0
        due("pixels(0, 1, 10, 0)", x.pixels(0, 1, 10, 0), 3);
        due("pixels(0, 1, 10, 2)", x.pixels(0, 1, 10, 2), 1);
        due("pixels(0, 0, 10, 2)", x.pixels(0, 0, 10, 2), 0);
        x.cut(0, 1);
        x.stem(0, 200, 100);
        due("pixels(0, 1, 10, 0), without a gap", x.pixels(0, 1, 10, 0), 2);
        due("pixels(0, 1, 10, 2), without a gap", x.pixels(0, 1, 10, 2), 0);
        x.stem(0, 300, 100);
        x.stem(0, 401, 100);
        x.stem(0, 520, 100);
        x.hint(0, 4, 3);
        // 3 and 1 wide, 4 pushed to 5 and 1 wide, then a gap of 19 units: 0, at least 1
        due("pixels(0, 4, 10, 0), follows a pushed one", x.pixels(0, 4, 10, 0), 7);
        due("pixels(0, 4, 10, 2)", x.pixels(0, 4, 10, 2), 0);
        x.set(1, 0);
        due("pixels(0, 4, 10, 0), least gap 0", x.pixels(0, 4, 10, 0), 7);
        due("pixels(0, 4, 10, 2), least gap 0", x.pixels(0, 4, 10, 2), 1);
        x.hint(0, 1, 3);
        due("pixels(0, 1, 10, 0), a gap of 0", x.pixels(0, 1, 10, 0), 2);
        x.set(1, 3);
        due("pixels(0, 1, 10, 0), a gap of 0 counts 3", x.pixels(0, 1, 10, 0), 5);
        due("pixels(0, 2, 10, 0), pushed by it", x.pixels(0, 2, 10, 0), 6);
        due("pixels(0, 2, 10, 2), pushed by it", x.pixels(0, 2, 10, 2), 1);
        due("glyphOf(0, 10, 3)", x.glyphOf(0, 10, 3), 12);
        // at 48 the gap of 19 units is 1, the least gap more
        due("pixels(0, 4, 48, 0)", x.pixels(0, 4, 48, 0),
                x.pixels(0, 3, 48, 0) + x.pixels(0, 3, 48, 1) + 3);
    }

    private static void pixelsCut() {
        Checks.about("promise 11, cut");
        HintedStems x = font(500);
        x.stem(0, 400, 100);
        due("pixels(0, 0, 10, 0)", x.pixels(0, 0, 10, 0), 4);
        due("pixels(0, 0, 10, 3), in the last column", x.pixels(0, 0, 10, 3), 0);
        x.cut(0, 0);
        x.stem(0, 450, 100);
        due("pixels(0, 0, 10, 0)", x.pixels(0, 0, 10, 0), 5);
        due("pixels(0, 0, 10, 3), behind the last column", x.pixels(0, 0, 10, 3), 1);
        x.cut(0, 0);
        x.stem(0, 400, 150);
        due("pixels(0, 0, 10, 1)", x.pixels(0, 0, 10, 1), 2);
        due("pixels(0, 0, 10, 3), half of it", x.pixels(0, 0, 10, 3), 1);
        due("glyphOf(0, 10, 1), half of it", x.glyphOf(0, 10, 1), 1);
        x.stem(0, 0, 10);
        x.hint(0, 0, 2);
        due("pixels(0, 0, 10, 0), ahead of the first column", x.pixels(0, 0, 10, 0), -1);
        due("pixels(0, 0, 10, 3), ahead of the first column", x.pixels(0, 0, 10, 3), 1);
        due("pixels(0, 1, 10, 3)", x.pixels(0, 1, 10, 3), 1);
        due("glyphOf(0, 10, 4)", x.glyphOf(0, 10, 4), 3);
        due("glyphOf(0, 10, 1)", x.glyphOf(0, 10, 1), 1);
    }

    private static void glyphsTold() {
        Checks.about("promise 12");
        HintedStems x = font(700, 100, 1500, 1350);
        x.stem(0, 100, 100);
        x.stem(0, 200, 100);
        x.stem(0, 420, 100);
        x.stem(0, 600, 200);
        int[] told = {7, 3, 1, 0, 0, 2};
        // at 10: 1, 2, 4 and 6 to 7, of which 7 is no column
        int[] at10 = {7, 4, 0, 0, 8, 3};
        for (int what = 0; what < 6; what++) {
            due("glyphOf(0, 10, " + what + ")", x.glyphOf(0, 10, what), at10[what]);
        }
        x.cut(0, 3);
        for (int what = 0; what < 6; what++) {
            due("glyphOf(0, 10, " + what + "), cut", x.glyphOf(0, 10, what), told[what]);
        }
        due("glyphOf(1, 6, 0), 0.6 columns", x.glyphOf(1, 6, 0), 1);
        due("glyphOf(2, 48, 0), 72 columns", x.glyphOf(2, 48, 0), 64);
        due("glyphOf(3, 48, 0), 64.8 columns", x.glyphOf(3, 48, 0), 64);
        due("glyphOf(3, 47, 0), 63.45 columns", x.glyphOf(3, 47, 0), 63);
        due("glyphOf(2, 48, 2), no stems", x.glyphOf(2, 48, 2), 1);
        due("glyphOf(2, 48, 5), no stems", x.glyphOf(2, 48, 5), 0);
        x.stem(2, 999, 300);
        x.stem(2, 0, 21);
        due("glyphOf(2, 48, 1)", x.glyphOf(2, 48, 1), 15);
        due("glyphOf(2, 48, 5)", x.glyphOf(2, 48, 5), 2);
        HintedStems y = font(500);
        y.stem(0, 0, 100);
        y.stem(0, 101, 100);
        due("glyphOf(0, 10, 3)", y.glyphOf(0, 10, 3), 2);
        due("glyphOf(0, 10, 2), pushed", y.glyphOf(0, 10, 2), 0);
        due("glyphOf(0, 10, 5)", y.glyphOf(0, 10, 5), 2);
        int[][] wrong = {{-1, 6, 0}, {4, 6, 0}, {0, 5, 0}, {0, 49, 0}, {0, 6, -1}, {0, 6, 6},
            {MOST, 6, 0}, {0, MOST, 0}, {0, 6, MOST}, {LEAST, 6, 0}, {0, LEAST, 0}, {0, 6, LEAST}};
        for (int[] w : wrong) {
            due("glyphOf(" + w[0] + ", " + w[1] + ", " + w[2] + ")", x.glyphOf(w[0], w[1], w[2]),
                    INVALID);
        }
    }

    private static void columnsLit() {
        Checks.about("promise 13");
        HintedStems x = font(600, 1500);
        x.stem(0, 100, 200);
        x.stem(0, 500, 100);
        int[] lit = {0, 1, 1, 0, 0, 1};
        for (int c = 0; c < 6; c++) {
            due("lit(0, 10, " + c + ")", x.lit(0, 10, c), lit[c]);
        }
        due("lit(0, 10, 6)", x.lit(0, 10, 6), NONE);
        due("lit(0, 10, 63)", x.lit(0, 10, 63), NONE);
        due("lit(1, 48, 63)", x.lit(1, 48, 63), 0);
        x.stem(1, 999, 300);
        due("lit(1, 48, 47)", x.lit(1, 48, 47), 0);
        due("lit(1, 48, 48)", x.lit(1, 48, 48), 1);
        due("lit(1, 48, 61)", x.lit(1, 48, 61), 1);
        due("lit(1, 48, 62)", x.lit(1, 48, 62), 0);
        int[][] wrong = {{-1, 6, 0}, {2, 6, 0}, {0, 5, 0}, {0, 49, 0}, {0, 6, -1}, {0, 6, 64},
            {MOST, 6, 0}, {0, MOST, 0}, {0, 6, MOST}, {LEAST, 6, 0}, {0, LEAST, 0}, {0, 6, LEAST}};
        for (int[] w : wrong) {
            due("lit(" + w[0] + ", " + w[1] + ", " + w[2] + ")", x.lit(w[0], w[1], w[2]), INVALID);
        }
    }

    private static void sheetColumns() {
        Checks.about("promise 14");
        HintedStems x = font(600, 300);
        x.stem(0, 100, 200);
        x.stem(1, 200, 100);
        due("inSheet(10, 0, 0), no sheet", x.inSheet(10, 0, 0), NONE);
        x.make(10);
        x.make(20);
        int[] lit = {0, 1, 1, 0, 0, 0};
        for (int c = 0; c < 6; c++) {
            due("inSheet(10, 0, " + c + ")", x.inSheet(10, 0, c), lit[c]);
        }
        due("inSheet(10, 0, 6)", x.inSheet(10, 0, 6), NONE);
        due("inSheet(10, 1, 2)", x.inSheet(10, 1, 2), 1);
        due("inSheet(10, 1, 1)", x.inSheet(10, 1, 1), 0);
        due("inSheet(10, 1, 3)", x.inSheet(10, 1, 3), NONE);
        due("inSheet(20, 1, 3)", x.inSheet(20, 1, 3), 0);
        due("inSheet(20, 1, 4)", x.inSheet(20, 1, 4), 1);
        x.glyph(500);
        due("inSheet(10, 2, 0), a glyph that came later", x.inSheet(10, 2, 0), NONE);
        due("inSheet(10, 7, 0)", x.inSheet(10, 7, 0), NONE);
        due("inSheet(11, 0, 0)", x.inSheet(11, 0, 0), NONE);
        x.cut(0, 0);
        due("inSheet(10, 0, 1), as it was made", x.inSheet(10, 0, 1), 1);
        due("lit(0, 10, 1)", x.lit(0, 10, 1), 0);
        int[][] wrong = {{5, 0, 0}, {49, 0, 0}, {10, -1, 0}, {10, 8, 0}, {10, 0, -1}, {10, 0, 64},
            {MOST, 0, 0}, {10, MOST, 0}, {10, 0, MOST}, {LEAST, 0, 0}, {10, LEAST, 0},
            {10, 0, LEAST}, {11, 8, 0}};
        for (int[] w : wrong) {
            due("inSheet(" + w[0] + ", " + w[1] + ", " + w[2] + ")", x.inSheet(w[0], w[1], w[2]),
                    INVALID);
        }
        HintedStems y = font(1500);
        y.make(48);
        due("inSheet(48, 0, 63)", y.inSheet(48, 0, 63), 0);
    }

    private static void sheetsTold() {
        Checks.about("promise 15");
        HintedStems x = font(600);
        due("sheetOf(0, 0), none", x.sheetOf(0, 0), NONE);
        x.stem(0, 100, 200);
        x.make(10);
        x.glyph(600);
        x.stem(1, 0, 150);
        x.make(20);
        int[][] told = {{10, 1, 1, 2}, {20, 2, 0, 7}};
        for (int i = 0; i < 2; i++) {
            for (int what = 0; what < 4; what++) {
                due("sheetOf(" + i + ", " + what + ")", x.sheetOf(i, what), told[i][what]);
            }
        }
        x.cut(1, 0);
        due("sheetOf(1, 3), as it was made", x.sheetOf(1, 3), 7);
        due("sheetOf(1, 2)", x.sheetOf(1, 2), 1);
        due("sheetOf(2, 0)", x.sheetOf(2, 0), NONE);
        due("sheetOf(2000000000, 0)", x.sheetOf(2000000000, 0), NONE);
        int[][] wrong = {{-1, 0}, {LEAST, 0}, {0, -1}, {0, 4}, {0, MOST}, {0, LEAST}, {9, 4}};
        for (int[] w : wrong) {
            due("sheetOf(" + w[0] + ", " + w[1] + ")", x.sheetOf(w[0], w[1]), INVALID);
        }
    }

    private static void sheetsStale() {
        Checks.about("promises 15 and 20, stale");
        HintedStems x = font(600);
        x.stem(0, 100, 90);
        x.make(10);
        due("sheetOf(0, 2)", x.sheetOf(0, 2), 0);
        x.stem(0, 300, 90);
        due("sheetOf(0, 2), a stem more", x.sheetOf(0, 2), 1);
        x.cut(0, 1);
        due("sheetOf(0, 2), as it was again", x.sheetOf(0, 2), 0);
        x.hint(0, 0, 2);
        due("sheetOf(0, 2), a hint without effect", x.sheetOf(0, 2), 0);
        x.standard(100);
        due("sheetOf(0, 2), a width without effect", x.sheetOf(0, 2), 0);
        x.cut(0, 0);
        x.stem(0, 100, 180);
        due("sheetOf(0, 2), wider", x.sheetOf(0, 2), 1);
        due("count(4)", x.count(4), 1);
        x.make(20);
        due("count(4)", x.count(4), 1);
        x.glyph(100);
        due("count(4), more glyphs", x.count(4), 2);
        x.make(10);
        due("count(4)", x.count(4), 1);
        due("sheetOf(0, 2)", x.sheetOf(0, 2), 1);
        due("sheetOf(1, 2)", x.sheetOf(1, 2), 0);
        x.stem(1, 0, 300);
        due("count(4), the second glyph", x.count(4), 2);
    }

    private static void evenSizes() {
        Checks.about("promise 16");
        HintedStems x = font(600, 600);
        due("even(6), no stems", x.even(6), 1);
        x.stem(0, 100, 140);
        due("even(10), one stem", x.even(10), 1);
        x.stem(1, 100, 160);
        // at 10: 1.4 and 1.6; they differ by 20
        due("even(10)", x.even(10), 0);
        due("even(6)", x.even(6), 1);
        x.set(0, 19);
        due("even(10), too unlike", x.even(10), 1);
        x.set(0, 20);
        due("even(10)", x.even(10), 0);
        x.standard(150);
        due("even(10), snapped", x.even(10), 1);
        x.drop(150);
        x.standard(120);
        due("even(10), one of them snapped", x.even(10), 0);
        x.drop(120);
        x.standard(180);
        due("even(10), the other one snapped", x.even(10), 0);
        x.standard(155);
        due("even(10), both snapped again", x.even(10), 1);
        for (int wrong : new int[] {5, 49, 0, -1, MOST, LEAST}) {
            due("even(" + wrong + ")", x.even(wrong), INVALID);
        }
        HintedStems later = font(600, 600);
        later.stem(0, 0, 300);
        later.stem(0, 400, 140);
        later.stem(1, 0, 250);
        later.stem(1, 400, 160);
        due("even(10), the last ones of two glyphs", later.even(10), 0);
        later.cut(1, 1);
        due("even(10), cut", later.even(10), 1);
        later.stem(0, 600, 155);
        due("even(10), two of one glyph", later.even(10), 0);
        HintedStems thin = font(600, 600);
        thin.set(0, 100);
        thin.stem(0, 0, 101);
        thin.stem(1, 0, 1);
        due("even(48), the thinnest second", thin.even(48), 0);
        thin = font(600, 600);
        thin.set(0, 100);
        thin.stem(0, 0, 1);
        due("even(48), the thinnest alone", thin.even(48), 1);
        thin.stem(1, 0, 101);
        due("even(48), the thinnest first", thin.even(48), 0);
        HintedStems own = font(600);
        own.set(0, 10);
        own.standard(150);
        own.standard(141);
        own.stem(0, 0, 160);
        own.stem(0, 200, 131);
        // hinted widths of 150 and 141, 2 and 1 pixels, but own widths that are too unlike
        due("even(10), by the own widths", own.even(10), 1);
        HintedStems apart = font(600);
        apart.set(0, 10);
        apart.standard(130);
        apart.standard(152);
        apart.stem(0, 0, 140);
        apart.stem(0, 200, 142);
        due("even(10), snapped apart", apart.even(10), 0);
        HintedStems y = font(600);
        y.stem(0, 0, 48);
        y.stem(0, 100, 68);
        // at 48: 2.3 and 3.264
        due("even(48)", y.even(48), 0);
        due("even(22), 1.056 and 1.496", y.even(22), 1);
        due("even(23), 1.104 and 1.564", y.even(23), 0);
    }

    private static void clearSizes() {
        Checks.about("promise 17");
        HintedStems x = font(600, 100, 600);
        for (int wrong : new int[] {-1, 3, 8, MOST, LEAST}) {
            due("clear(" + wrong + ")", x.clear(wrong), INVALID);
        }
        due("clear(0), no stems", x.clear(0), 6);
        x.stem(0, 100, 100);
        due("clear(0)", x.clear(0), 6);
        x.stem(1, 100, 300);
        due("clear(1)", x.clear(1), NONE);
        x.stem(2, 0, 100);
        x.stem(2, 110, 20);
        // pushed, until 110 units are 2 pixels while 100 units are still 1
        due("clear(2)", x.clear(2), 14);
        x.cut(0, 0);
        x.stem(0, 600, 1);
        due("clear(0), always behind", x.clear(0), NONE);
        HintedStems y = font(100);
        y.stem(0, 90, 1);
        // its pixel is 1 from 6 on, and there is a column 1 from 15 on
        due("clear(0)", y.clear(0), 15);
        HintedStems last = font(115, 115);
        last.stem(0, 114, 1);
        last.stem(1, 114, 40);
        // at 48 its pixel is 5 (5.472), and 115 units are 6 columns (5.52)
        due("clear(0), only at the last size", last.clear(0), 48);
        due("best(0, 0, 0), by its right edge", last.best(0, 0, 0), 2);
        due("clear(1)", last.clear(1), NONE);
        HintedStems z = font(100);
        z.stem(0, 90, 10);
        z.hint(0, 0, 1);
        // twice its middle is 190 units: 1 pixel less 1 up to 13, so the column 0
        due("clear(0), by the middle", z.clear(0), 6);
        HintedStems w = font(1500);
        w.stem(0, 0, 200);
        w.stem(0, 206, 10);
        // 206 units are 1 pixel more than 200 units from 17 on (3.502 and 3.4)
        due("clear(0), with a small gap", w.clear(0), 17);
        w.cut(0, 1);
        w.stem(0, 999, 300);
        w.set(1, 0);
        due("clear(0), far apart", w.clear(0), 6);
    }

    private static void bestHints() {
        Checks.about("promise 18");
        HintedStems x = font(600);
        x.stem(0, 0, 100);
        due("best(0, 0, 0), all alike good", x.best(0, 0, 0), 0);
        x.hint(0, 0, 2);
        due("best(0, 0, 0), the lowest", x.best(0, 0, 0), 0);
        due("best(0, 0, 1)", x.best(0, 0, 1), 43);
        due("stemOf(0, 0, 2), as it was", x.stemOf(0, 0, 2), 2);
        due("count(7)", x.count(7), 3);
        x.hint(0, 0, 0);
        x.stem(0, 110, 20);
        due("best(0, 1, 0), to follow", x.best(0, 1, 0), 3);
        due("best(0, 1, 1)", x.best(0, 1, 1), 43);
        HintedStems y = font(100);
        y.stem(0, 200, 300);
        due("best(0, 0, 0), never clear", y.best(0, 0, 0), 0);
        due("best(0, 0, 1), never clear", y.best(0, 0, 1), 0);
        int[][] wrong = {{-1, 0, 0}, {1, 0, 0}, {0, -1, 0}, {0, 2, 0}, {0, 0, -1}, {0, 0, 2},
            {MOST, 0, 0}, {0, MOST, 0}, {0, 0, MOST}, {LEAST, 0, 0}, {0, LEAST, 0}, {0, 0, LEAST}};
        for (int[] w : wrong) {
            due("best(" + w[0] + ", " + w[1] + ", " + w[2] + ")", x.best(w[0], w[1], w[2]), INVALID);
        }
    }

    private static void means() {
        Checks.about("promise 19");
        HintedStems x = font(600, 600);
        due("mean()", x.mean(), NONE);
        x.stem(0, 0, 1);
        due("mean(), 1", x.mean(), 0x3f800000);
        x.stem(0, 10, 2);
        due("mean(), 1.5", x.mean(), 0x3fc00000);
        x.stem(1, 10, 2);
        due("mean(), 5 / 3", x.mean(), Float.floatToIntBits(5f / 3f));
        x.stem(1, 100, 300);
        due("mean(), 305 / 4", x.mean(), Float.floatToIntBits(76.25f));
        x.cut(0, 0);
        x.cut(0, 0);
        x.cut(1, 0);
        due("mean(), 300", x.mean(), Float.floatToIntBits(300f));
        x.standard(290);
        due("mean(), of the own widths", x.mean(), Float.floatToIntBits(300f));
        HintedStems one = font(600);
        for (int width = 1; width <= 300; width += width < 9 ? 1 : 3) {
            one.stem(0, 0, width);
            due("mean(), " + width, one.mean(), Float.floatToIntBits((float) width));
            one.cut(0, 0);
            one.set(0, 0);
        }
        HintedStems y = font(600, 600);
        int sum = 0;
        for (int k = 0; k < 12; k++) {
            y.stem(k / 6, 160 * (k % 6), 1 + k * k);
            sum += 1 + k * k;
            due("mean(), of " + (k + 1), y.mean(), Float.floatToIntBits((float) sum / (k + 1)));
        }
    }

    private static void counts() {
        Checks.about("promise 20");
        HintedStems x = font(600, 700, 800);
        x.stem(0, 0, 80);
        x.stem(0, 100, 90);
        x.stem(1, 100, 90);
        x.stem(2, 300, 200);
        due("count(0)", x.count(0), 3);
        due("count(1)", x.count(1), 4);
        due("count(5)", x.count(5), 3);
        x.standard(85);
        due("count(5), snapped", x.count(5), 2);
        x.standard(10);
        due("count(2)", x.count(2), 2);
        due("count(10)", x.count(10), 10);
        due("count(11)", x.count(11), 85);
        due("count(12)", x.count(12), NONE);
        x.make(10);
        x.make(11);
        x.make(10);
        due("count(3)", x.count(3), 2);
        due("count(4)", x.count(4), 0);
        due("count(6)", x.count(6), 3);
        due("count(7)", x.count(7), 4);
        x.type('g');
        x.type('1');
        due("count(8)", x.count(8), 2);
        x.set(0, 7);
        x.set(1, 2);
        due("count(20)", x.count(20), 7);
        due("count(21)", x.count(21), 2);
        for (int wrong : new int[] {-1, 9, 13, 19, 22, MOST, LEAST}) {
            due("count(" + wrong + ")", x.count(wrong), INVALID);
        }
    }

    private static void undoing() {
        Checks.about("promise 21");
        HintedStems x = new HintedStems();
        due("undo()", x.undo(), IMPOSSIBLE);
        x.glyph(500);
        x.glyph(600);
        due("count(7)", x.count(7), 2);
        due("undo()", x.undo(), 1);
        due("count(0)", x.count(0), 1);
        due("undo()", x.undo(), 0);
        due("count(0)", x.count(0), 0);
        due("undo()", x.undo(), IMPOSSIBLE);
        for (int k = 0; k < 7; k++) {
            x.glyph(500 + k);
        }
        due("count(7)", x.count(7), 4);
        for (int k = 3; k >= 0; k--) {
            due("undo()", x.undo(), k);
            due("count(0)", x.count(0), 3 + k);
        }
        due("undo(), the oldest ones were dropped", x.undo(), IMPOSSIBLE);
        due("count(0)", x.count(0), 3);
        x.type('g');
        x.glyph(700);
        x.type('7');
        due("undo()", x.undo(), 0);
        due("count(8), the text stays", x.count(8), 2);
        for (int k = 0; k < 30; k++) {
            x.set(0, k);
            x.set(0, k + 50);
            x.undo();
            due("count(20), round " + k, x.count(20), k);
        }
    }

    private static void undoingAll() {
        Checks.about("promise 21, every change");
        HintedStems x = font(600);
        x.stem(0, 100, 90);
        x.stem(0, 300, 95);
        x.standard(100);
        x.make(10);
        x.cut(0, 0);
        due("undo()", x.undo(), 3);
        due("stemOf(0, 0, 0)", x.stemOf(0, 0, 0), 100);
        due("stemOf(0, 1, 1)", x.stemOf(0, 1, 1), 95);
        x.hint(0, 1, 2);
        x.undo();
        due("stemOf(0, 1, 2)", x.stemOf(0, 1, 2), 0);
        x.stem(0, 0, 5);
        x.undo();
        due("count(1)", x.count(1), 2);
        x.standard(50);
        x.undo();
        due("count(10)", x.count(10), 100);
        x.drop(100);
        x.undo();
        due("count(10)", x.count(10), 100);
        x.make(11);
        x.undo();
        due("count(3)", x.count(3), 1);
        due("count(6)", x.count(6), 1);
        x.cut(0, 0);
        x.make(10);
        due("inSheet(10, 0, 1)", x.inSheet(10, 0, 1), 0);
        x.undo();
        due("inSheet(10, 0, 1), as it was", x.inSheet(10, 0, 1), 1);
        due("sheetOf(0, 2), stale again", x.sheetOf(0, 2), 1);
        x.set(1, 3);
        x.undo();
        due("count(21)", x.count(21), 1);
        x.set(0, 3);
        x.undo();
        due("count(20)", x.count(20), 20);
        write(x, "g500;g500;");
        x.play();
        due("count(0)", x.count(0), 3);
        x.undo();
        due("count(0)", x.count(0), 1);
    }

    private static void undoingEach() {
        Checks.about("promise 21, right behind another change");
        for (int change = 0; change < 9; change++) {
            HintedStems x = font(600);
            x.stem(0, 100, 90);
            x.standard(100);
            write(x, "g500;");
            x.set(0, 33);
            due("the change " + change, alter(x, change), CHANGED[change]);
            due("undo() of " + change, x.undo(), 3);
            due("count(20), before " + change, x.count(20), 33);
            due("count(2), before " + change, x.count(2), 1);
            due("count(1), before " + change, x.count(1), 1);
            due("count(0), before " + change, x.count(0), 1);
            due("undo() again", x.undo(), 2);
            due("count(20), first", x.count(20), 20);
        }
    }

    private static final int[] CHANGED = {1, 0, 0, 0, 0, 0, 1, 1, 1};

    private static int alter(HintedStems x, int change) {
        switch (change) {
            case 0: return x.glyph(700);
            case 1: return x.stem(0, 0, 5);
            case 2: return x.cut(0, 0);
            case 3: return x.hint(0, 0, 1);
            case 4: return x.standard(9);
            case 5: return x.drop(100);
            case 6: return x.make(9);
            case 7: return x.set(1, 2);
            default: return x.play();
        }
    }

    private static void typing() {
        Checks.about("promise 22");
        HintedStems x = new HintedStems();
        for (int wrong : new int[] {31, 127, 0, -1, 255, MOST, LEAST}) {
            due("type(" + wrong + ")", x.type(wrong), INVALID);
        }
        due("type(32)", x.type(32), 1);
        due("type(126)", x.type(126), 2);
        for (int k = 3; k <= 60; k++) {
            due("type(59)", x.type(59), k);
        }
        due("type(59), a 61st", x.type(59), LIMIT);
        due("type(31), a 61st", x.type(31), INVALID);
        due("count(8)", x.count(8), 60);
        due("count(7), no change", x.count(7), 0);
    }

    private static void emptying() {
        Checks.about("promise 23");
        HintedStems x = new HintedStems();
        due("clearText()", x.clearText(), 0);
        write(x, "x");
        due("fault(1)", x.fault(1), 1);
        due("clearText()", x.clearText(), 1);
        due("count(8)", x.count(8), 0);
        due("fault(1)", x.fault(1), NONE);
        write(x, "g100;");
        due("clearText()", x.clearText(), 5);
        due("type(109)", x.type('m'), 1);
        due("fault(2), nothing is left of the old one", x.fault(2), 1);
        due("count(7), no change", x.count(7), 0);
    }

    private static void faulty(HintedStems x, String text, int at, int reason, int cause) {
        write(x, text);
        due("fault(0) of " + text, x.fault(0), at);
        due("fault(1) of " + text, x.fault(1), reason);
        due("fault(2) of " + text, x.fault(2), cause);
        due("play() of " + text, x.play(), IMPOSSIBLE);
    }

    private static void faultsOfForm() {
        Checks.about("promise 24, the form");
        HintedStems x = font(600);
        for (int wrong : new int[] {-1, 3, MOST, LEAST}) {
            due("fault(" + wrong + ")", x.fault(wrong), INVALID);
        }
        faulty(x, ";", 0, 1, 0);
        faulty(x, " g100;", 0, 1, 0);
        faulty(x, "G100;", 0, 1, 0);
        faulty(x, "x", 0, 1, 0);
        faulty(x, "g", 0, 1, 1);
        faulty(x, "g;", 0, 1, 1);
        faulty(x, "g600", 0, 1, 4);
        faulty(x, "g600,", 0, 1, 4);
        faulty(x, "g600 ;", 0, 1, 4);
        faulty(x, "g00600;", 0, 1, 5);
        faulty(x, "g-100;", 0, 1, 1);
        faulty(x, "g/;", 0, 1, 1);
        faulty(x, "g1:;", 0, 1, 2);
        faulty(x, "s0;", 0, 1, 2);
        faulty(x, "s0,1;", 0, 1, 4);
        faulty(x, "s0,,1;", 0, 1, 3);
        faulty(x, "s0,1,", 0, 1, 5);
        faulty(x, "s0,1,;", 0, 1, 5);
        faulty(x, "s0,1,1,", 0, 1, 6);
        faulty(x, "s0,1,12345;", 0, 1, 9);
        faulty(x, "h0,0", 0, 1, 4);
        faulty(x, "h0,0,0", 0, 1, 6);
        faulty(x, "w", 0, 1, 1);
        faulty(x, "w50,", 0, 1, 3);
        faulty(x, "m1x;", 0, 1, 2);
        faulty(x, "g600;;", 5, 1, 0);
        faulty(x, "g600;m10", 5, 1, 3);
        faulty(x, "m10;m11;d10;", 8, 1, 0);
        faulty(x, "m49;x", 0, 2, INVALID);
        faulty(x, "x;m49;", 0, 1, 0);
        due("count(7), no change", x.count(7), 1);
    }

    private static void faultsOfOrders() {
        Checks.about("promise 24, the orders");
        HintedStems x = font(600);
        due("fault(0), empty", x.fault(0), NONE);
        faulty(x, "g99;", 0, 2, INVALID);
        faulty(x, "g9999;", 0, 2, INVALID);
        faulty(x, "s1,0,10;", 0, 2, INVALID);
        faulty(x, "g500;s2,0,10;", 5, 2, INVALID);
        faulty(x, "s0,100,50;s0,149,5;", 10, 2, IMPOSSIBLE);
        faulty(x, "h0,0,1;", 0, 2, INVALID);
        faulty(x, "s0,0,9;h0,0,4;", 7, 2, INVALID);
        faulty(x, "w50;w050;", 4, 2, IMPOSSIBLE);
        faulty(x, "w1;w2;w3;w4;", 9, 2, LIMIT);
        faulty(x, "w301;", 0, 2, INVALID);
        faulty(x, "m5;", 0, 2, INVALID);
        faulty(x, "g500;g500;g500;g500;g500;g500;g500;g500;", 35, 2, LIMIT);
        faulty(x, "s0,0,1;s0,2,1;s0,4,1;s0,6,1;s0,8,1;s0,10,1;s0,12,1;", 43, 2, LIMIT);
        due("count(1), nothing was done", x.count(1), 0);
        due("count(0), nothing was done", x.count(0), 1);
        write(x, "g500;s1,0,10;h1,0,3;w0010;m48;");
        due("fault(0)", x.fault(0), NONE);
        due("fault(1)", x.fault(1), NONE);
        due("fault(2)", x.fault(2), NONE);
        due("count(0)", x.count(0), 1);
        x.play();
        due("fault(0), the glyph 1 has its stem", x.fault(0), 5);
        due("fault(1), the glyph 1 has its stem", x.fault(1), 2);
        due("fault(2), the glyph 1 has its stem", x.fault(2), IMPOSSIBLE);
        x.cut(1, 0);
        due("fault(0), the width is one", x.fault(0), 5 + 8 + 7);
        due("fault(1), the width is one", x.fault(1), 2);
        due("fault(2), the width is one", x.fault(2), IMPOSSIBLE);
        x.drop(10);
        due("fault(0), all is possible again", x.fault(0), NONE);
    }

    private static void playing() {
        Checks.about("promise 25");
        HintedStems x = new HintedStems();
        due("play(), no orders", x.play(), 0);
        due("count(7), a change all the same", x.count(7), 1);
        due("undo()", x.undo(), 0);
        write(x, "g600;s0,100,80;s0,0300,0090;h0,1,3;w85;m12;");
        due("play()", x.play(), 6);
        due("count(7), one change", x.count(7), 1);
        due("count(8), the text stays", x.count(8), 43);
        due("stemOf(0, 1, 0)", x.stemOf(0, 1, 0), 300);
        due("stemOf(0, 1, 1)", x.stemOf(0, 1, 1), 90);
        due("stemOf(0, 1, 2)", x.stemOf(0, 1, 2), 3);
        due("count(10)", x.count(10), 85);
        due("sheetOf(0, 0)", x.sheetOf(0, 0), 12);
        due("sheetOf(0, 2)", x.sheetOf(0, 2), 0);
        due("play(), w85 is there", x.play(), IMPOSSIBLE);
        due("undo()", x.undo(), 0);
        due("count(0)", x.count(0), 0);
        due("count(2)", x.count(2), 0);
        due("count(3)", x.count(3), 0);
        due("count(8)", x.count(8), 43);
        due("play(), again", x.play(), 6);
        write(x, "m6;m7;m8;m9;m6;m6;m6;m6;m6;m6;m6;m6;m6;m6;m6;m6;m6;m6;m6;m6;");
        due("count(8)", x.count(8), 60);
        due("play(), 20 orders", x.play(), 20);
        due("count(6)", x.count(6), 21);
        due("sheetOf(3, 0)", x.sheetOf(3, 0), 6);
        write(x, "g500;g99;");
        due("play(), with a fault", x.play(), IMPOSSIBLE);
        due("count(0), nothing was done", x.count(0), 1);
        due("count(7)", x.count(7), 2);
    }

    private static void errorsChangeNothing() {
        Checks.about("changes and errors");
        HintedStems x = font(600);
        x.stem(0, 100, 50);
        due("count(7)", x.count(7), 2);
        x.glyph(0);
        x.stem(0, 100, 50);
        x.cut(0, 1);
        x.hint(0, 0, 4);
        x.standard(0);
        x.drop(5);
        x.make(5);
        x.set(0, 101);
        write(x, "x");
        x.play();
        due("count(7)", x.count(7), 2);
        due("undo()", x.undo(), 1);
        due("count(1)", x.count(1), 0);
        due("count(0)", x.count(0), 1);
    }
}
