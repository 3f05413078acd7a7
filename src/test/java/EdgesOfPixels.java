/** The edges of stems and glyphs at sizes: promises 11, 12, 13, 16, 17 and 18. */
final class EdgesOfPixels {
    private EdgesOfPixels() {
    }

    private static void run(String rows) {
        Script.run(rows);
    }

    // ---- promise 11: pixels

    @Says("`size`: 6 to 48")
    static void promise11TakesSizesOf6To48() {
        run("""
            glyph(1000) | stem(0, 100, 110) | pixels(0, 0, 6, 0) = 1 | pixels(0, 0, 6, 1) = 1
            pixels(0, 0, 48, 0) = 5 | pixels(0, 0, 48, 1) = 5
            pixels(0, 0, 5, 0) = INVALID_ARGUMENT | pixels(0, 0, 49, 0) = INVALID_ARGUMENT
            pixels(0, 0, 0, 0) = INVALID_ARGUMENT | pixels(0, 0, -6, 0) = INVALID_ARGUMENT
            pixels(0, 0, MIN, 0) = INVALID_ARGUMENT | pixels(0, 0, MAX, 0) = INVALID_ARGUMENT
            """);
    }

    @Says({"`what`: 0: its left pixel; 1: its pixels; 2: 1 if it was pushed, otherwise 0; 3: 1 if it is "
            + "cut, otherwise 0", "Returns something of a stem at a size.", "Returns the number",
        "INVALID_ARGUMENT if an argument is out of range"})
    static void promise11TellsOf0To3() {
        run("""
            glyph(300) | stem(0, 100, 100) | stem(0, 201, 150)
            pixels(0, 0, 10, 0) = 1 | pixels(0, 0, 10, 1) = 1 | pixels(0, 0, 10, 2) = 0 | pixels(0, 0, 10, 3) = 0
            pixels(0, 1, 10, 0) = 3 | pixels(0, 1, 10, 1) = 2 | pixels(0, 1, 10, 2) = 1 | pixels(0, 1, 10, 3) = 1
            pixels(0, 0, 10, -1) = INVALID_ARGUMENT | pixels(0, 0, 10, 4) = INVALID_ARGUMENT
            pixels(0, 0, 10, MIN) = INVALID_ARGUMENT | pixels(0, 0, 10, MAX) = INVALID_ARGUMENT
            """);
    }

    @Says({"`glyph`: number of the glyph", "`stem`: number of the stem"})
    static void promise11RefusesStemsThatThereAreNot() {
        run("glyph(600) | pixels(0, 0, 10, 0) = INVALID_ARGUMENT");
        run("""
            glyph(600) | glyph(600) | stem(0, 0, 1) | stem(0, 10, 1) | stem(0, 20, 1) | stem(0, 30, 1)
            stem(0, 40, 1) | stem(0, 50, 1) | stem(1, 0, 1) | pixels(0, 5, 10, 1) = 1 | pixels(1, 0, 10, 1) = 1
            pixels(0, 6, 10, 0) = INVALID_ARGUMENT | pixels(1, -1, 10, 0) = INVALID_ARGUMENT
            pixels(1, 1, 10, 0) = INVALID_ARGUMENT | pixels(2, 0, 10, 0) = INVALID_ARGUMENT
            pixels(-1, 0, 10, 0) = INVALID_ARGUMENT | pixels(-1, 6, 10, 0) = INVALID_ARGUMENT
            pixels(8, 0, 10, 0) = INVALID_ARGUMENT | pixels(715827883, 0, 10, 0) = INVALID_ARGUMENT
            pixels(MIN, 0, 10, 0) = INVALID_ARGUMENT | pixels(MAX, 0, 10, 0) = INVALID_ARGUMENT
            pixels(0, MIN, 10, 0) = INVALID_ARGUMENT | pixels(0, MAX, 10, 0) = INVALID_ARGUMENT
            """);
    }

    @Says({"A number of units v at a size is told in pixels as (v times the size plus 500) / 1000.",
        "by the hint 0 the place in pixels"})
    static void promise11RoundsFromAHalfUp() {
        run("""
            glyph(1000) | stem(0, 49, 1) | pixels(0, 0, 10, 0) = 0 | cut(0, 0)
            stem(0, 50, 1) | pixels(0, 0, 10, 0) = 1 | pixels(0, 0, 9, 0) = 0 | cut(0, 0)
            stem(0, 949, 1) | pixels(0, 0, 10, 0) = 9 | cut(0, 0) | stem(0, 950, 1) | pixels(0, 0, 10, 0) = 10
            """);
    }

    @Says("An em has 1000 units.")
    static void promise11HasAnEmOf1000Units() {
        run("""
            glyph(1000) | stem(0, 999, 1) | pixels(0, 0, 6, 0) = 6 | pixels(0, 0, 48, 0) = 48
            stem(0, 0, 1) | pixels(0, 0, 48, 0) = 0 | stem(0, 500, 1) | pixels(0, 1, 48, 0) = 24
            """);
    }

    @Says("At a size its pixels are its hinted width in pixels, at least 1.")
    static void promise11HasAtLeast1Pixel() {
        run("""
            glyph(1000) | stem(0, 0, 1) | stem(0, 10, 83) | stem(0, 100, 249) | stem(0, 400, 250)
            stem(0, 700, 300) | pixels(0, 0, 6, 1) = 1 | pixels(0, 0, 48, 1) = 1 | pixels(0, 1, 6, 1) = 1
            pixels(0, 2, 6, 1) = 1 | pixels(0, 3, 6, 1) = 2 | pixels(0, 4, 6, 1) = 2 | pixels(0, 4, 48, 1) = 14
            """);
    }

    @Says({"its hinted width is that, otherwise its own", "At a size its pixels are its hinted width in pixels"})
    static void promise11HasThePixelsOfItsHintedWidth() {
        run("""
            glyph(1000) | stem(0, 0, 80) | pixels(0, 0, 48, 1) = 4 | standard(100) = 1
            pixels(0, 0, 48, 1) = 5 | set(0, 19) | pixels(0, 0, 48, 1) = 4 | set(0, 20)
            pixels(0, 0, 48, 1) = 5 | drop(100) | pixels(0, 0, 48, 1) = 4
            """);
    }

    @Says({"All divisions are rounded down, also below 0.", "All numbers are whole numbers",
        "by the hint 1 ((two times the place plus its own width) in pixels, less the pixels of the "
            + "stem) / 2"})
    static void promise11RoundsTheMiddleDownBelow0() {
        run("""
            glyph(1000) | set(0, 100) | standard(101) | stem(0, 0, 1) | hint(0, 0, 1)
            pixels(0, 0, 48, 1) = 5 | pixels(0, 0, 48, 0) = -3 | pixels(0, 0, 26, 1) = 3
            pixels(0, 0, 26, 0) = -2 | pixels(0, 0, 16, 1) = 2 | pixels(0, 0, 16, 0) = -1
            pixels(0, 0, 6, 1) = 1 | pixels(0, 0, 6, 0) = -1 | pixels(0, 0, 48, 2) = 0
            pixels(0, 0, 48, 3) = 1 | glyphOf(0, 48, 1) = 2 | lit(0, 48, 1) = 1 | lit(0, 48, 2) = 0
            """);
    }

    @Says("by the hint 1 ((two times the place plus its own width) in pixels, less the pixels of the stem) / 2")
    static void promise11RoundsTheMiddleDownAbove0() {
        run("""
            glyph(1000) | stem(0, 150, 90) | hint(0, 0, 1) | pixels(0, 0, 10, 0) = 1 | pixels(0, 0, 48, 0) = 7
            standard(110) = 1 | pixels(0, 0, 48, 1) = 5 | pixels(0, 0, 48, 0) = 7 | pixels(0, 0, 40, 0) = 6
            """);
    }

    @Says("by the hint 2 the place plus its own width, in pixels, less the pixels of the stem")
    static void promise11TakesTheRightEdgeBelow0() {
        run("""
            glyph(1000) | set(0, 100) | standard(101) | stem(0, 0, 1) | hint(0, 0, 2)
            pixels(0, 0, 48, 0) = -5 | pixels(0, 0, 48, 3) = 1 | glyphOf(0, 48, 1) = 0 | lit(0, 48, 0) = 0
            glyphOf(0, 48, 5) = 0 | drop(101) | pixels(0, 0, 48, 0) = -1 | pixels(0, 0, 6, 0) = -1
            cut(0, 0) | stem(0, 0, 11) | hint(0, 0, 2) | pixels(0, 0, 45, 0) = -1 | pixels(0, 0, 46, 0) = 0
            """);
    }

    @Says("3 it follows the stem to its left (a stem without one to its left is rounded by its left edge then)")
    static void promise11FollowsNone() {
        run("""
            glyph(1000) | stem(0, 150, 90) | hint(0, 0, 3) | pixels(0, 0, 10, 0) = 2 | set(1, 3)
            pixels(0, 0, 10, 0) = 2 | stem(0, 0, 10) = 0 | set(1, 1) | pixels(0, 1, 20, 0) = 4
            cut(0, 0) | pixels(0, 0, 20, 0) = 3 | pixels(0, 0, 20, 2) = 0
            """);
    }

    @Says("by the hint 3 the left pixel of the stem to its left, and its pixels, and the gap in pixels, "
            + "which counts at least setting 1 (a gap of 0, too)")
    static void promise11CountsAGapOf0AtLeastSetting1() {
        run("""
            glyph(1000) | stem(0, 0, 100) | stem(0, 100, 100) | hint(0, 1, 3) | pixels(0, 1, 10, 0) = 2
            set(1, 0) | pixels(0, 1, 10, 0) = 1 | pixels(0, 1, 10, 2) = 0 | set(1, 2) | pixels(0, 1, 10, 0) = 3
            set(1, 3) | pixels(0, 1, 10, 0) = 4 | pixels(0, 1, 10, 2) = 0 | pixels(0, 1, 48, 0) = 8
            """);
    }

    @Says("which counts at least setting 1")
    static void promise11CountsAGapAtLeastSetting1() {
        run("""
            glyph(1000) | stem(0, 0, 100) | stem(0, 149, 100) | hint(0, 1, 3) | pixels(0, 1, 10, 0) = 2
            pixels(0, 1, 10, 2) = 0 | set(1, 0) | pixels(0, 1, 10, 0) = 2 | pixels(0, 1, 10, 2) = 1
            cut(0, 1) | stem(0, 349, 100) | hint(0, 1, 3) | set(1, 3) | pixels(0, 1, 10, 0) = 4
            set(1, 2) | pixels(0, 1, 10, 0) = 3 | pixels(0, 1, 48, 0) = 17
            cut(0, 1) | stem(0, 350, 100) | hint(0, 1, 3) | pixels(0, 1, 10, 0) = 4 | set(1, 3)
            pixels(0, 1, 10, 0) = 4
            """);
    }

    @Says("Then a stem is pushed to the right, if it is nearer to the one to its left than it may be: its "
            + "left pixel is at least the left pixel of that, and its pixels, and, if their gap is above 0, "
            + "1 more.")
    static void promise11PushesOneWhoseGapIsAbove0() {
        String first = "glyph(1000) | stem(0, 100, 100)\n";
        run(first + "stem(0, 201, 9) | pixels(0, 1, 10, 0) = 3 | pixels(0, 1, 10, 2) = 1");
        run(first + "stem(0, 249, 9) | pixels(0, 1, 10, 0) = 3 | pixels(0, 1, 10, 2) = 1");
        run(first + "stem(0, 250, 9) | pixels(0, 1, 10, 0) = 3 | pixels(0, 1, 10, 2) = 0");
        run(first + "stem(0, 350, 9) | pixels(0, 1, 10, 0) = 4 | pixels(0, 1, 10, 2) = 0");
    }

    @Says("if their gap is above 0, 1 more")
    static void promise11PushesOneWhoseGapIs0() {
        run("""
            glyph(1000) | stem(0, 100, 100) | stem(0, 200, 9) | pixels(0, 1, 10, 0) = 2 | pixels(0, 1, 10, 2) = 0
            """);
        run("""
            glyph(1000) | stem(0, 100, 40) | stem(0, 140, 40) | pixels(0, 1, 10, 0) = 2 | pixels(0, 1, 10, 2) = 1
            """);
    }

    @Says("its left pixel is at least the left pixel of that, and its pixels")
    static void promise11PushesFromOneThatWasPushed() {
        run("""
            glyph(1000) | stem(0, 0, 10) | stem(0, 20, 10) | stem(0, 40, 10) | stem(0, 60, 10)
            stem(0, 80, 10) | stem(0, 100, 10) | pixels(0, 0, 6, 0) = 0 | pixels(0, 0, 6, 2) = 0
            pixels(0, 1, 6, 0) = 2 | pixels(0, 2, 6, 0) = 4 | pixels(0, 3, 6, 0) = 6 | pixels(0, 4, 6, 0) = 8
            pixels(0, 5, 6, 0) = 10 | pixels(0, 5, 6, 2) = 1 | glyphOf(0, 6, 3) = 62 | glyphOf(0, 6, 4) = 56
            glyphOf(0, 6, 1) = 3 | glyphOf(0, 6, 5) = 3
            """);
    }

    @Says("At a size the stems of a glyph get their left pixels in their order, from the left")
    static void promise11FollowsOneThatWasPushed() {
        run("""
            glyph(1000) | stem(0, 100, 100) | stem(0, 201, 100) | stem(0, 320, 100) | hint(0, 2, 3)
            pixels(0, 1, 10, 0) = 3 | pixels(0, 2, 10, 0) = 5 | pixels(0, 2, 10, 2) = 0
            """);
    }

    @Says("A stem that has a pixel that is no column is cut.")
    static void promise11CutsByOnePixelBehindTheLastColumn() {
        run("glyph(500) | stem(0, 449, 10) | pixels(0, 0, 10, 0) = 4 | pixels(0, 0, 10, 3) = 0");
        run("glyph(500) | stem(0, 450, 10) | pixels(0, 0, 10, 0) = 5 | pixels(0, 0, 10, 3) = 1");
        run("glyph(500) | stem(0, 400, 149) | pixels(0, 0, 10, 1) = 1 | pixels(0, 0, 10, 3) = 0");
        run("glyph(500) | stem(0, 400, 150) | pixels(0, 0, 10, 1) = 2 | pixels(0, 0, 10, 3) = 1 | lit(0, 10, 4) = 1");
        run("glyph(250) | stem(0, 0, 300) | pixels(0, 0, 10, 1) = 3 | pixels(0, 0, 10, 3) = 0");
        run("glyph(249) | stem(0, 0, 300) | pixels(0, 0, 10, 1) = 3 | pixels(0, 0, 10, 3) = 1 | glyphOf(0, 10, 1) = 2");
    }

    @Says("A stem that has a pixel that is no column is cut.")
    static void promise11CutsByOnePixelAheadOfTheFirstColumn() {
        run("""
            glyph(500) | stem(0, 0, 49) | hint(0, 0, 2) | pixels(0, 0, 10, 0) = -1 | pixels(0, 0, 10, 3) = 1
            cut(0, 0) | stem(0, 0, 50) | hint(0, 0, 2) | pixels(0, 0, 10, 0) = 0 | pixels(0, 0, 10, 3) = 0
            """);
    }

    @Says("at least 1 column, at most 64")
    static void promise11CutsByOnePixelBehindTheColumn63() {
        String four = """
            glyph(1500) | set(0, 100) | standard(300) | stem(0, 0, 200) | stem(0, 200, 200)
            stem(0, 400, 200) | stem(0, 600, 200)
            """;
        run(four + """
            stem(0, 800, 170) | pixels(0, 4, 48, 0) = 56 | pixels(0, 4, 48, 1) = 8 | pixels(0, 4, 48, 3) = 0
            glyphOf(0, 48, 1) = 64 | glyphOf(0, 48, 5) = 1 | lit(0, 48, 63) = 1 | glyphOf(0, 48, 4) = 0
            """);
        run(four + """
            stem(0, 800, 180) | pixels(0, 4, 48, 0) = 56 | pixels(0, 4, 48, 1) = 9 | pixels(0, 4, 48, 3) = 1
            glyphOf(0, 48, 1) = 64 | glyphOf(0, 48, 5) = 1 | lit(0, 48, 63) = 1 | glyphOf(0, 48, 4) = 16
            """);
    }

    // ---- promise 12: glyphOf

    @Says({"`size`: 6 to 48", "INVALID_ARGUMENT if an argument is out of range"})
    static void promise12TakesSizesOf6To48() {
        run("""
            glyph(1000) | glyphOf(0, 6, 0) = 6 | glyphOf(0, 48, 0) = 48 | glyphOf(0, 5, 0) = INVALID_ARGUMENT
            glyphOf(0, 49, 0) = INVALID_ARGUMENT | glyphOf(0, 0, 0) = INVALID_ARGUMENT
            glyphOf(0, MIN, 0) = INVALID_ARGUMENT | glyphOf(0, MAX, 0) = INVALID_ARGUMENT
            """);
    }

    @Says({"`what`: 0: its columns; 1: how many of them are lit; 2: 1 if it is clear, otherwise 0; 3: stems "
            + "that were pushed, as a set; 4: stems that are cut, as a set; 5: runs of lit columns side by "
            + "side, how many", "Returns the number", "Returns something of a glyph at a size."})
    static void promise12TellsOf0To5() {
        run("""
            glyph(1000) | stem(0, 0, 100) | stem(0, 300, 200) | glyphOf(0, 10, 0) = 10 | glyphOf(0, 10, 1) = 3
            glyphOf(0, 10, 2) = 1 | glyphOf(0, 10, 3) = 0 | glyphOf(0, 10, 4) = 0 | glyphOf(0, 10, 5) = 2
            glyphOf(0, 10, -1) = INVALID_ARGUMENT | glyphOf(0, 10, 6) = INVALID_ARGUMENT
            glyphOf(0, 10, MIN) = INVALID_ARGUMENT | glyphOf(0, 10, MAX) = INVALID_ARGUMENT
            """);
    }

    @Says("`glyph`: number of the glyph")
    static void promise12RefusesGlyphsThatThereAreNot() {
        run("""
            glyphOf(0, 10, 0) = INVALID_ARGUMENT | 7 x glyph(100) | glyphOf(6, 48, 0) = 5
            glyphOf(7, 10, 0) = INVALID_ARGUMENT | glyph(1500) = 7 | glyphOf(7, 10, 0) = 15
            glyphOf(8, 10, 0) = INVALID_ARGUMENT | glyphOf(-1, 10, 0) = INVALID_ARGUMENT
            glyphOf(MIN, 10, 0) = INVALID_ARGUMENT | glyphOf(MAX, 10, 0) = INVALID_ARGUMENT
            """);
    }

    @Says("The columns of a glyph at a size are 0 to its advance in pixels, less 1, at least 1 column")
    static void promise12HasAtLeast1Column() {
        run("""
            glyph(100) | glyphOf(0, 6, 0) = 1 | glyphOf(0, 14, 0) = 1 | glyphOf(0, 15, 0) = 2
            glyphOf(0, 48, 0) = 5 | lit(0, 6, 0) = 0 | lit(0, 6, 1) = NOT_FOUND
            """);
    }

    @Says("at least 1 column, at most 64.")
    static void promise12HasAtMost64Columns() {
        run("""
            glyph(1322) | glyph(1323) | glyph(1343) | glyph(1344) | glyph(1500) | glyphOf(0, 48, 0) = 63
            glyphOf(1, 48, 0) = 64 | glyphOf(2, 48, 0) = 64 | glyphOf(3, 48, 0) = 64 | glyphOf(4, 48, 0) = 64
            glyphOf(4, 42, 0) = 63 | glyphOf(4, 43, 0) = 64 | glyphOf(4, 47, 0) = 64
            """);
    }

    @Says("A column is lit if it is a pixel of a stem.")
    static void promise12HasNoLitColumnAndAllOfThem() {
        run("glyph(600) | glyphOf(0, 10, 1) = 0 | glyphOf(0, 10, 5) = 0");
        run("glyph(300) | stem(0, 0, 300) | glyphOf(0, 10, 0) = 3 | glyphOf(0, 10, 1) = 3 | glyphOf(0, 10, 5) = 1");
        run("glyph(300) | stem(0, 999, 300) | glyphOf(0, 10, 1) = 0 | glyphOf(0, 10, 5) = 0 | glyphOf(0, 10, 4) = 1");
    }

    @Says("A column is lit if it is a pixel of a stem.")
    static void promise12LightsNothingBeyondTheColumn63() {
        String five = """
            glyph(1500) | set(0, 100) | standard(300) | stem(0, 100, 200) | stem(0, 300, 200)
            stem(0, 500, 200) | stem(0, 700, 200) | stem(0, 900, 200)
            """;
        run(five + """
            pixels(0, 0, 48, 0) = 5 | pixels(0, 4, 48, 0) = 61 | pixels(0, 4, 48, 1) = 14 | glyphOf(0, 48, 1) = 59
            lit(0, 48, 0) = 0 | lit(0, 48, 4) = 0 | lit(0, 48, 5) = 1 | lit(0, 48, 63) = 1
            glyphOf(0, 48, 4) = 16 | glyphOf(0, 48, 3) = 30
            """);
        run(five + """
            set(1, 3) | hint(0, 1, 3) | hint(0, 2, 3) | hint(0, 3, 3) | hint(0, 4, 3)
            pixels(0, 3, 48, 0) = 56 | pixels(0, 4, 48, 0) = 73 | lit(0, 48, 9) = 1 | lit(0, 48, 19) = 0
            lit(0, 48, 20) = 0 | lit(0, 48, 21) = 0 | glyphOf(0, 48, 1) = 50 | glyphOf(0, 48, 5) = 4
            glyphOf(0, 48, 4) = 24 | glyphOf(0, 48, 3) = 0 | make(48) | inSheet(48, 0, 20) = 0
            """);
    }

    @Says("A glyph is clear at a size if no stem is cut, and none was pushed.")
    static void promise12IsClearIfNoneIsCutAndNoneWasPushed() {
        run("glyph(600) | glyphOf(0, 10, 2) = 1");
        run("glyph(600) | stem(0, 500, 100) | glyphOf(0, 10, 2) = 1");
        run("glyph(600) | stem(0, 550, 100) | glyphOf(0, 10, 4) = 1 | glyphOf(0, 10, 3) = 0 | glyphOf(0, 10, 2) = 0");
        run("glyph(600) | stem(0, 100, 100) | stem(0, 201, 10) | glyphOf(0, 10, 3) = 2 | glyphOf(0, 10, 4) = 0\n"
                + "glyphOf(0, 10, 2) = 0");
        run("glyph(200) | stem(0, 100, 100) | stem(0, 201, 10) | glyphOf(0, 10, 3) = 2 | glyphOf(0, 10, 4) = 2\n"
                + "glyphOf(0, 10, 2) = 0");
    }

    @Says("Sets of stems are told as bits: bit k is for the stem k.")
    static void promise12TellsSetsOfNoneAndOfAllSix() {
        run("""
            glyph(100) | glyphOf(0, 6, 3) = 0 | glyphOf(0, 6, 4) = 0 | stem(0, 200, 10) | stem(0, 300, 10)
            stem(0, 400, 10) | stem(0, 500, 10) | stem(0, 600, 10) | stem(0, 700, 10)
            glyphOf(0, 6, 4) = 63 | glyphOf(0, 6, 3) = 62 | glyphOf(0, 6, 1) = 0 | glyphOf(0, 6, 5) = 0
            """);
        run("""
            glyph(500) | stem(0, 0, 10) | hint(0, 0, 2) | stem(0, 300, 10) | stem(0, 900, 10)
            glyphOf(0, 10, 4) = 5 | glyphOf(0, 10, 3) = 0
            """);
    }

    @Says("5: runs of lit columns side by side, how many")
    static void promise12TellsRunsOf0To6() {
        run("""
            glyph(1000) | stem(0, 0, 50) | stem(0, 150, 50) | stem(0, 300, 50) | stem(0, 450, 50)
            stem(0, 600, 50) | stem(0, 750, 50) | glyphOf(0, 20, 5) = 6 | glyphOf(0, 20, 1) = 6
            """);
        run("""
            glyph(1000) | stem(0, 0, 50) | stem(0, 50, 50) | stem(0, 100, 50) | stem(0, 950, 50)
            glyphOf(0, 20, 5) = 2 | glyphOf(0, 20, 1) = 4 | lit(0, 20, 0) = 1 | lit(0, 20, 19) = 1
            """);
    }

    // ---- promise 13: lit

    @Says({"`column`: 0 to 63", "Returns 1 if it is, otherwise 0", "INVALID_ARGUMENT if an argument is out of range",
        "Tells whether a column is lit."})
    static void promise13TakesColumnsOf0To63() {
        run("""
            glyph(1500) | stem(0, 0, 20) | lit(0, 48, 0) = 1 | lit(0, 48, 1) = 0 | lit(0, 48, 63) = 0
            lit(0, 48, -1) = INVALID_ARGUMENT | lit(0, 48, 64) = INVALID_ARGUMENT
            lit(0, 48, MIN) = INVALID_ARGUMENT | lit(0, 48, MAX) = INVALID_ARGUMENT
            lit(0, 48, -64) = INVALID_ARGUMENT | lit(0, 48, 128) = INVALID_ARGUMENT
            """);
    }

    @Says("NOT_FOUND if the glyph has no such column")
    static void promise13FindsNoColumnBehindTheLastOne() {
        run("""
            glyph(500) | stem(0, 400, 300) | lit(0, 10, 3) = 0 | lit(0, 10, 4) = 1 | lit(0, 10, 5) = NOT_FOUND
            lit(0, 10, 63) = NOT_FOUND | lit(0, 48, 23) = 1 | lit(0, 48, 24) = NOT_FOUND
            """);
        run("glyph(100) | lit(0, 6, 0) = 0 | lit(0, 6, 1) = NOT_FOUND");
    }

    @Says({"`size`: 6 to 48", "`glyph`: number of the glyph"})
    static void promise13TakesSizesAndGlyphsInRange() {
        run("""
            lit(0, 6, 0) = INVALID_ARGUMENT | glyph(1500) | stem(0, 0, 100) | lit(0, 6, 0) = 1 | lit(0, 48, 4) = 1
            lit(0, 48, 5) = 0 | lit(0, 5, 0) = INVALID_ARGUMENT | lit(0, 49, 0) = INVALID_ARGUMENT
            lit(0, MIN, 0) = INVALID_ARGUMENT | lit(0, MAX, 0) = INVALID_ARGUMENT
            lit(1, 6, 0) = INVALID_ARGUMENT | lit(-1, 6, 0) = INVALID_ARGUMENT | lit(8, 6, 0) = INVALID_ARGUMENT
            lit(MIN, 6, 0) = INVALID_ARGUMENT | lit(MAX, 6, 0) = INVALID_ARGUMENT
            """);
    }

    @Says("and LIMIT_REACHED rather than NOT_FOUND")
    static void promise13TellsTheRangeAheadOfWhatIsNotFound() {
        run("""
            glyph(100) | lit(0, 6, 63) = NOT_FOUND | lit(0, 6, 64) = INVALID_ARGUMENT
            lit(0, 5, 63) = INVALID_ARGUMENT | lit(1, 6, 63) = INVALID_ARGUMENT
            """);
    }

    // ---- promise 16: even

    @Says({"`size`: 6 to 48", "INVALID_ARGUMENT if size is out of range"})
    static void promise16TakesSizesOf6To48() {
        run("""
            even(6) = 1 | even(48) = 1 | even(5) = INVALID_ARGUMENT | even(49) = INVALID_ARGUMENT
            even(0) = INVALID_ARGUMENT | even(-1) = INVALID_ARGUMENT | even(MIN) = INVALID_ARGUMENT
            even(MAX) = INVALID_ARGUMENT
            """);
        run("glyph(600) | stem(0, 0, 83) | stem(0, 100, 84) | even(6) = 1 | even(18) = 0 | even(5) = INVALID_ARGUMENT");
        run("glyph(600) | stem(0, 0, 72) | stem(0, 100, 73) | even(48) = 0 | even(6) = 1");
        run("glyph(600) | stem(0, 0, 249) | stem(0, 250, 250) | even(6) = 0");
    }

    @Says({"Returns 1 if it is, otherwise 0", "Tells whether a size is even."})
    static void promise16IsEvenWithNoStemAndWithOne() {
        run("glyph(600) | even(10) = 1 | stem(0, 0, 150) | even(10) = 1 | stem(0, 200, 149) | even(10) = 0");
        run("8 x glyph(600) | set(0, 100) | even(48) = 1 | stem(0, 0, 100) | even(48) = 1 | cut(0, 0)\n"
                + "stem(7, 0, 100) | even(48) = 1 | standard(1) = 1 | standard(99) = 1 | even(48) = 1");
    }

    @Says("A size is even if stems whose widths differ by setting 0 at most have the same pixels at it (for "
            + "all pairs of stems of all glyphs); otherwise it is uneven.")
    static void promise16HoldsThoseThatDifferBySetting0() {
        run("""
            glyph(600) | stem(0, 0, 140) | stem(0, 200, 160) | even(10) = 0 | set(0, 19) | even(10) = 1
            set(0, 20) | even(10) = 0 | set(0, 100) | even(10) = 0 | set(0, 0) | even(10) = 1
            """);
        run("glyph(600) | set(0, 100) | stem(0, 0, 1) | stem(0, 200, 101) | even(48) = 0");
        run("glyph(600) | set(0, 100) | stem(0, 0, 1) | stem(0, 200, 102) | even(48) = 1");
        run("glyph(600) | glyph(600) | set(0, 100) | stem(0, 0, 101) | stem(1, 0, 1) | even(48) = 0");
        run("glyph(600) | glyph(600) | set(0, 100) | stem(0, 0, 102) | stem(1, 0, 1) | even(48) = 1");
        run("glyph(600) | set(0, 0) | stem(0, 0, 150) | stem(0, 200, 150) | stem(0, 400, 149) | even(10) = 1");
    }

    @Says("(for all pairs of stems of all glyphs)")
    static void promise16HoldsPairsOfAllGlyphs() {
        run("8 x glyph(600) | stem(0, 0, 160) | even(10) = 1 | stem(7, 0, 140) | even(10) = 0");
        run("8 x glyph(600) | stem(0, 0, 1) | stem(3, 0, 300) | stem(7, 500, 140) | stem(7, 700, 160) | even(10) = 0");
        run("glyph(600) | stem(0, 0, 100) | stem(0, 200, 140) | even(10) = 1 | stem(0, 400, 160) | even(10) = 0\n"
                + "cut(0, 1) | even(10) = 1");
    }

    @Says("have the same pixels at it")
    static void promise16HoldsThePixelsOfHintedWidths() {
        run("""
            glyph(600) | stem(0, 0, 140) | stem(0, 200, 160) | even(10) = 0 | standard(150) = 2 | even(10) = 1
            drop(150) | standard(120) = 1 | even(10) = 0 | standard(180) = 1 | even(10) = 0
            """);
    }

    // ---- promise 17: clear

    @Says({"`glyph`: number of the glyph", "INVALID_ARGUMENT"})
    static void promise17RefusesGlyphsThatThereAreNot() {
        run("""
            clear(0) = INVALID_ARGUMENT | glyph(600) | clear(0) = 6 | clear(1) = INVALID_ARGUMENT
            clear(-1) = INVALID_ARGUMENT | clear(8) = INVALID_ARGUMENT | clear(MIN) = INVALID_ARGUMENT
            clear(MAX) = INVALID_ARGUMENT
            """);
    }

    @Says({"Finds the least size, 6 to 48, at which a glyph is clear.", "Returns the size"})
    static void promise17FindsSizesOf6To48() {
        run("glyph(600) | clear(0) = 6 | stem(0, 0, 100) | clear(0) = 6");
        run("glyph(115) | stem(0, 114, 1) | glyphOf(0, 48, 2) = 1 | clear(0) = 48 | glyphOf(0, 47, 2) = 0");
        run("glyph(600) | stem(0, 0, 100) | stem(0, 110, 20) | glyphOf(0, 13, 2) = 0 | clear(0) = 14");
    }

    @Says("NOT_FOUND if there is none")
    static void promise17FindsNoSizeBeside6To48() {
        run("glyph(100) | stem(0, 100, 300) | clear(0) = NOT_FOUND | cut(0, 0) | clear(0) = 6");
        // clear at the size 5, if there were one
        run("glyph(100) | stem(0, 99, 101) | clear(0) = NOT_FOUND");
        // clear at the size 49, if there were one
        run("glyph(154) | stem(0, 153, 1) | clear(0) = NOT_FOUND");
    }

    // ---- promise 18: best

    @Says({"`what`: 0: the hint; 1: at how many sizes", "INVALID_ARGUMENT if an argument is out of range",
        "Returns the number"})
    static void promise18TellsOf0And1() {
        run("""
            glyph(600) | stem(0, 0, 100) | best(0, 0, 0) = 0 | best(0, 0, 1) = 43
            best(0, 0, -1) = INVALID_ARGUMENT | best(0, 0, 2) = INVALID_ARGUMENT
            best(0, 0, MIN) = INVALID_ARGUMENT | best(0, 0, MAX) = INVALID_ARGUMENT
            """);
    }

    @Says({"`glyph`: number of the glyph", "`stem`: number of the stem"})
    static void promise18RefusesStemsThatThereAreNot() {
        run("""
            best(0, 0, 0) = INVALID_ARGUMENT | glyph(600) | best(0, 0, 0) = INVALID_ARGUMENT | glyph(600)
            stem(0, 0, 1) | stem(0, 100, 1) | stem(0, 200, 1) | stem(0, 300, 1) | stem(0, 400, 1) | stem(0, 500, 1)
            stem(1, 0, 1) | best(0, 6, 0) = INVALID_ARGUMENT | best(1, -1, 0) = INVALID_ARGUMENT
            best(1, 1, 0) = INVALID_ARGUMENT | best(2, 0, 0) = INVALID_ARGUMENT | best(-1, 0, 0) = INVALID_ARGUMENT
            best(-1, 6, 0) = INVALID_ARGUMENT | best(8, 0, 0) = INVALID_ARGUMENT
            best(MIN, 0, 0) = INVALID_ARGUMENT | best(MAX, 0, 0) = INVALID_ARGUMENT
            best(0, MIN, 0) = INVALID_ARGUMENT | best(0, MAX, 0) = INVALID_ARGUMENT
            best(715827883, 0, 0) = INVALID_ARGUMENT | best(0, 5, 1) = 30 | best(1, 0, 0) = 0
            """);
    }

    @Says("Finds the hint of a stem, 0 to 3, with which its glyph is clear at most sizes of 6 to 48, of several "
            + "the lowest.")
    static void promise18FindsEachOfTheHints0To3() {
        run("glyph(600) | stem(0, 0, 100) | hint(0, 0, 3) | best(0, 0, 0) = 0 | best(0, 0, 1) = 43");
        run("glyph(100) | stem(0, 50, 5) | best(0, 0, 0) = 1 | best(0, 0, 1) = 43");
        run("glyph(115) | stem(0, 114, 1) | best(0, 0, 0) = 2 | best(0, 0, 1) = 43");
        run("glyph(600) | stem(0, 0, 100) | stem(0, 110, 20) | best(0, 1, 0) = 3 | best(0, 1, 1) = 43");
    }

    @Says("of several the lowest")
    static void promise18FindsTheLowestOfSeveral() {
        // the hints 1 and 2; 2 and 3; 1 and 3; 1, 2 and 3
        run("""
            glyph(475) | stem(0, 130, 100) | stem(0, 230, 115) | hint(0, 0, 1)
            best(0, 0, 0) = 1 | best(0, 0, 1) = 43 | hint(0, 0, 2) | best(0, 0, 0) = 1
            """);
        run("""
            glyph(335) | stem(0, 100, 110) | hint(0, 0, 2) | stem(0, 225, 119)
            best(0, 1, 0) = 2 | best(0, 1, 1) = 8
            """);
        run("""
            glyph(225) | stem(0, 60, 130) | hint(0, 0, 1) | stem(0, 225, 19)
            best(0, 1, 0) = 1 | best(0, 1, 1) = 7
            """);
        run("""
            glyph(200) | stem(0, 40, 120) | hint(0, 0, 2) | stem(0, 190, 9)
            best(0, 1, 0) = 1 | best(0, 1, 1) = 11
            """);
    }

    @Says("clear at most sizes of 6 to 48")
    static void promise18CountsNoSizeAndAll43() {
        run("glyph(100) | stem(0, 200, 300) | best(0, 0, 0) = 0 | best(0, 0, 1) = 0");
        run("glyph(1500) | stem(0, 500, 1) | hint(0, 0, 2) | best(0, 0, 0) = 0 | best(0, 0, 1) = 43");
        run("glyph(154) | stem(0, 153, 1) | stem(0, 0, 1) | best(0, 0, 1) = 0 | cut(0, 0) | best(0, 0, 1) = 43");
    }

    @Says("Finds the hint of a stem, 0 to 3")
    static void promise18LeavesTheHintAsItWas() {
        run("""
            glyph(115) | stem(0, 114, 1) | hint(0, 0, 1) | best(0, 0, 0) = 2 | stemOf(0, 0, 2) = 1 | count(7) = 3
            best(0, 0, 2) = INVALID_ARGUMENT | stemOf(0, 0, 2) = 1
            """);
    }
}
