/** The edges of what there is beside sizes, of sheets and of numbers: promises 10, 14, 15, 19 and 20. */
final class EdgesOfLooks {
    private EdgesOfLooks() {
    }

    private static void run(String rows) {
        Script.run(rows);
    }

    // Eight glyphs of six stems, all of unlike widths: 1 to 48.
    private static String full() {
        StringBuilder rows = new StringBuilder("8 x glyph(1000)\n");
        for (int k = 0; k < 48; k++) {
            rows.append("stem(" + k / 6 + ", " + k % 6 * 150 + ", " + (k + 1) + ")\n");
        }
        return rows.toString();
    }

    // Eight glyphs, each of which has 64 columns at 48, all of them lit.
    private static String allLit() {
        StringBuilder rows = new StringBuilder("8 x glyph(1500)\nset(0, 100) | standard(300)\n");
        for (int k = 0; k < 40; k++) {
            rows.append("stem(" + k / 5 + ", " + k % 5 * 200 + ", 200)\n");
        }
        return rows.toString();
    }

    // ---- promise 10: stemOf

    @Says({"`what`: 0: its place; 1: its width; 2: its hint; 3: its hinted width; 4: the standard width to which "
            + "it snaps; 5: how many stems of all glyphs are alike with it, itself too; 6: the gap to the stem "
            + "to its left", "Returns the number", "INVALID_ARGUMENT if an argument is out of range",
        "Returns something of a stem."})
    static void promise10TellsOf0To6() {
        run("""
            glyph(600) | stem(0, 0, 10) | stem(0, 100, 80) | hint(0, 1, 3) | standard(90)
            stemOf(0, 1, 0) = 100 | stemOf(0, 1, 1) = 80 | stemOf(0, 1, 2) = 3 | stemOf(0, 1, 3) = 90
            stemOf(0, 1, 4) = 90 | stemOf(0, 1, 5) = 1 | stemOf(0, 1, 6) = 90
            stemOf(0, 1, -1) = INVALID_ARGUMENT | stemOf(0, 1, 7) = INVALID_ARGUMENT
            stemOf(0, 1, MIN) = INVALID_ARGUMENT | stemOf(0, 1, MAX) = INVALID_ARGUMENT
            """);
    }

    @Says({"`glyph`: number of the glyph", "`stem`: number of the stem"})
    static void promise10RefusesStemsThatThereAreNot() {
        run("stemOf(0, 0, 0) = INVALID_ARGUMENT | glyph(600) | stemOf(0, 0, 0) = INVALID_ARGUMENT");
        run("""
            glyph(600) | glyph(600) | stem(0, 0, 1) | stem(0, 10, 1) | stem(0, 20, 1) | stem(0, 30, 1)
            stem(0, 40, 1) | stem(0, 50, 1) | stem(1, 0, 1) | stemOf(0, 5, 0) = 50 | stemOf(1, 0, 0) = 0
            stemOf(0, 6, 0) = INVALID_ARGUMENT | stemOf(1, -1, 0) = INVALID_ARGUMENT
            stemOf(1, 1, 0) = INVALID_ARGUMENT | stemOf(2, 0, 0) = INVALID_ARGUMENT
            stemOf(-1, 0, 0) = INVALID_ARGUMENT | stemOf(-1, 6, 0) = INVALID_ARGUMENT
            stemOf(8, 0, 0) = INVALID_ARGUMENT | stemOf(715827883, 0, 0) = INVALID_ARGUMENT
            stemOf(MIN, 0, 0) = INVALID_ARGUMENT | stemOf(MAX, 0, 0) = INVALID_ARGUMENT
            stemOf(0, MIN, 0) = INVALID_ARGUMENT | stemOf(0, MAX, 0) = INVALID_ARGUMENT
            """);
    }

    @Says("NOT_FOUND for 4 if it snaps to none")
    static void promise10FindsNoStandardWidth() {
        run("""
            glyph(600) | stem(0, 0, 80) | stemOf(0, 0, 4) = NOT_FOUND | stemOf(0, 0, 3) = 80
            standard(101) = 0 | stemOf(0, 0, 4) = NOT_FOUND | standard(59) = 0 | stemOf(0, 0, 4) = NOT_FOUND
            standard(100) = 1 | stemOf(0, 0, 4) = 100 | drop(59) | standard(60) = 1 | stemOf(0, 0, 4) = 60
            set(0, 19) | stemOf(0, 0, 4) = NOT_FOUND | stemOf(0, 0, 3) = 80
            """);
        run("glyph(600) | stem(0, 0, 80) | set(0, 0) | standard(80) = 1 | stemOf(0, 0, 4) = 80 | stemOf(0, 0, 3) = 80");
    }

    @Says("for 6 without a stem to its left")
    static void promise10FindsNoGapWithoutAStemToItsLeft() {
        run("""
            glyph(600) | glyph(600) | stem(0, 10, 5) | stemOf(0, 0, 6) = NOT_FOUND | stem(1, 40, 5)
            stemOf(1, 0, 6) = NOT_FOUND | stem(0, 0, 5) | stemOf(0, 1, 6) = 5 | stemOf(0, 0, 6) = NOT_FOUND
            cut(0, 0) | stemOf(0, 0, 6) = NOT_FOUND
            """);
    }

    @Says("(their gap is the units between both)")
    static void promise10TellsGapsOf0AndOf998() {
        run("""
            glyph(600) | stem(0, 0, 1) | stem(0, 999, 1) | stemOf(0, 1, 6) = 998 | stem(0, 1, 300)
            stemOf(0, 1, 6) = 0 | stemOf(0, 2, 6) = 698
            """);
    }

    @Says("Two stems (of any glyphs) are alike if their hinted widths are the same.")
    static void promise10CountsItselfAndAll48() {
        run("glyph(600) | stem(0, 0, 80) | stemOf(0, 0, 5) = 1 | stem(0, 100, 81) | stemOf(0, 0, 5) = 1");
        run("glyph(600) | glyph(600) | stem(0, 0, 80) | stem(1, 0, 100) | standard(90) | stemOf(0, 0, 5) = 2 "
                + "| stemOf(1, 0, 5) = 2");
        run(full() + "stemOf(0, 0, 5) = 1 | stemOf(7, 5, 5) = 1 | set(0, 100) | standard(50) = 48\n"
                + "stemOf(0, 0, 5) = 48 | stemOf(7, 5, 5) = 48 | set(0, 0) | stemOf(7, 5, 5) = 1");
    }

    @Says("5: how many stems of all glyphs are alike with it, itself too")
    static void promise10CountsTheThinnestAlone() {
        run("""
            glyph(600) | glyph(600) | stem(1, 0, 1) | stemOf(1, 0, 5) = 1 | standard(1) = 1 | stemOf(1, 0, 5) = 1
            stem(1, 5, 21) | stemOf(1, 0, 5) = 2 | stem(1, 30, 22) | stemOf(1, 0, 5) = 2
            """);
    }

    @Says("LIMIT_REACHED rather than NOT_FOUND")
    static void promise10TellsTheRangeAheadOfWhatIsNotFound() {
        run("""
            glyph(600) | stem(0, 0, 80) | stemOf(0, 0, 4) = NOT_FOUND | stemOf(0, 0, 6) = NOT_FOUND
            stemOf(0, 1, 4) = INVALID_ARGUMENT | stemOf(0, 1, 6) = INVALID_ARGUMENT
            stemOf(1, 0, 4) = INVALID_ARGUMENT | stemOf(-1, 0, 6) = INVALID_ARGUMENT
            """);
    }

    // ---- promise 14: inSheet

    @Says({"`size`: 6 to 48", "INVALID_ARGUMENT if an argument is out of range"})
    static void promise14TakesSizesOf6To48() {
        run("""
            inSheet(6, 0, 0) = NOT_FOUND | inSheet(48, 0, 0) = NOT_FOUND | inSheet(5, 0, 0) = INVALID_ARGUMENT
            inSheet(49, 0, 0) = INVALID_ARGUMENT | inSheet(0, 0, 0) = INVALID_ARGUMENT
            glyph(600) | make(6) | make(48) | inSheet(6, 0, 0) = 0 | inSheet(48, 0, 0) = 0
            inSheet(5, 0, 0) = INVALID_ARGUMENT | inSheet(49, 0, 0) = INVALID_ARGUMENT
            inSheet(MIN, 0, 0) = INVALID_ARGUMENT | inSheet(MAX, 0, 0) = INVALID_ARGUMENT
            """);
    }

    @Says({"`glyph`: 0 to 7: number of the glyph", "or it has no such glyph or column"})
    static void promise14TakesGlyphsOf0To7() {
        run("""
            glyph(600) | make(10) | glyph(600) | stem(0, 0, 100) | make(11)
            inSheet(10, 0, 0) = 0 | inSheet(10, 1, 0) = NOT_FOUND | inSheet(10, 7, 0) = NOT_FOUND
            inSheet(10, 8, 0) = INVALID_ARGUMENT | inSheet(10, -1, 0) = INVALID_ARGUMENT
            inSheet(11, -1, 0) = INVALID_ARGUMENT | inSheet(11, -8, 0) = INVALID_ARGUMENT
            inSheet(10, MIN, 0) = INVALID_ARGUMENT | inSheet(10, MAX, 0) = INVALID_ARGUMENT
            inSheet(11, 1, 0) = 0 | inSheet(11, 2, 0) = NOT_FOUND
            """);
        run("8 x glyph(600) | make(10) | inSheet(10, 7, 5) = 0 | inSheet(10, 7, 6) = NOT_FOUND");
    }

    @Says({"`column`: 0 to 63", "or it has no such glyph or column"})
    static void promise14TakesColumnsOf0To63() {
        run(allLit() + """
            make(48) | inSheet(48, 0, 0) = 1 | inSheet(48, 0, 63) = 1 | inSheet(48, 7, 63) = 1
            inSheet(48, 0, -1) = INVALID_ARGUMENT | inSheet(48, 0, 64) = INVALID_ARGUMENT
            inSheet(48, 0, MIN) = INVALID_ARGUMENT | inSheet(48, 0, MAX) = INVALID_ARGUMENT
            """);
        run("""
            glyph(500) | stem(0, 400, 100) | make(10) | inSheet(10, 0, 3) = 0 | inSheet(10, 0, 4) = 1
            inSheet(10, 0, 5) = NOT_FOUND | inSheet(10, 0, 63) = NOT_FOUND
            """);
    }

    @Says("NOT_FOUND if there is no such sheet")
    static void promise14FindsNoSheetThatIsGone() {
        run("""
            glyph(600) | inSheet(10, 0, 0) = NOT_FOUND | make(10) | inSheet(10, 0, 0) = 0
            inSheet(9, 0, 0) = NOT_FOUND | inSheet(11, 0, 0) = NOT_FOUND | make(11) | make(12) | make(13)
            inSheet(10, 0, 0) = 0 | make(14) | inSheet(10, 0, 0) = NOT_FOUND | undo() | inSheet(10, 0, 0) = 0
            inSheet(14, 0, 0) = NOT_FOUND
            """);
    }

    @Says({"Returns 1 if it was as the sheet was made, otherwise 0",
        "Tells whether a column is lit in the sheet of a size.",
        "A sheet keeps of each glyph that there was when it was made its lit columns, as they were."})
    static void promise14TellsColumnsAsTheyWere() {
        run("""
            glyph(600) | stem(0, 100, 100) | make(10) | inSheet(10, 0, 1) = 1 | cut(0, 0) | lit(0, 10, 1) = 0
            inSheet(10, 0, 1) = 1 | stem(0, 0, 100) | lit(0, 10, 0) = 1 | inSheet(10, 0, 0) = 0
            make(11) | inSheet(10, 0, 1) = 1 | inSheet(11, 0, 0) = 1 | make(10) | inSheet(10, 0, 1) = 0
            inSheet(10, 0, 0) = 1
            """);
    }

    @Says("LIMIT_REACHED rather than NOT_FOUND")
    static void promise14TellsTheRangeAheadOfWhatIsNotFound() {
        run("""
            inSheet(10, 8, 0) = INVALID_ARGUMENT | inSheet(10, 0, 64) = INVALID_ARGUMENT
            inSheet(5, 7, 63) = INVALID_ARGUMENT | inSheet(10, 7, 63) = NOT_FOUND
            """);
    }

    // ---- promise 15: sheetOf

    @Says({"`index`: 0 for the one that was made longest ago, and so on", "NOT_FOUND if there are not so many"})
    static void promise15TakesIndexesOfSheetsThatThereAre() {
        run("""
            sheetOf(0, 0) = NOT_FOUND | make(20) | sheetOf(0, 0) = 20 | sheetOf(1, 0) = NOT_FOUND | make(10)
            make(30) | make(15) | sheetOf(0, 0) = 20 | sheetOf(1, 0) = 10 | sheetOf(2, 0) = 30
            sheetOf(3, 0) = 15 | sheetOf(4, 0) = NOT_FOUND | sheetOf(MAX, 0) = NOT_FOUND
            make(40) | sheetOf(0, 0) = 10 | sheetOf(3, 0) = 40 | sheetOf(4, 0) = NOT_FOUND
            make(10) | sheetOf(0, 0) = 30 | sheetOf(3, 0) = 10 | sheetOf(4, 0) = NOT_FOUND
            """);
    }

    @Says("INVALID_ARGUMENT if index is below 0 or what is out of range")
    static void promise15RefusesIndexesBelow0() {
        run("""
            sheetOf(-1, 0) = INVALID_ARGUMENT | make(10) | sheetOf(-1, 0) = INVALID_ARGUMENT
            sheetOf(MIN, 0) = INVALID_ARGUMENT | sheetOf(0, 0) = 10
            """);
    }

    @Says({"`what`: 0: its size; 1: its glyphs; 2: 1 if it is stale, otherwise 0; 3: lit columns of all of its "
            + "glyphs together", "Returns the number", "Returns something of a sheet."})
    static void promise15TellsOf0To3() {
        run("""
            glyph(600) | stem(0, 0, 200) | glyph(600) | stem(1, 500, 100) | make(10) | sheetOf(0, 0) = 10
            sheetOf(0, 1) = 2 | sheetOf(0, 2) = 0 | sheetOf(0, 3) = 3 | sheetOf(0, -1) = INVALID_ARGUMENT
            sheetOf(0, 4) = INVALID_ARGUMENT | sheetOf(0, MIN) = INVALID_ARGUMENT
            sheetOf(0, MAX) = INVALID_ARGUMENT
            """);
    }

    @Says("LIMIT_REACHED rather than NOT_FOUND")
    static void promise15TellsTheRangeAheadOfWhatIsNotFound() {
        run("""
            sheetOf(0, 4) = INVALID_ARGUMENT | sheetOf(9, -1) = INVALID_ARGUMENT | sheetOf(-1, 4) = INVALID_ARGUMENT
            sheetOf(9, 3) = NOT_FOUND
            """);
    }

    @Says("3: lit columns of all of its glyphs together")
    static void promise15CountsNoColumnAnd512() {
        run("make(10) | sheetOf(0, 3) = 0 | sheetOf(0, 1) = 0");
        run("8 x glyph(600) | make(10) | sheetOf(0, 3) = 0 | sheetOf(0, 1) = 8");
        run(allLit() + "make(48) | sheetOf(0, 3) = 512 | sheetOf(0, 1) = 8 | sheetOf(0, 2) = 0");
    }

    @Says("3: lit columns of all of its glyphs together")
    static void promise15CountsNoColumnOfTheSheetBeside() {
        run("""
            8 x glyph(300) | stem(0, 0, 200) | make(10) | sheetOf(0, 3) = 2 | make(20) | sheetOf(0, 3) = 2
            sheetOf(1, 3) = 4 | make(30) | make(40) | sheetOf(0, 3) = 2 | sheetOf(1, 3) = 4 | sheetOf(2, 3) = 6
            sheetOf(3, 3) = 8
            """);
    }

    @Says("It is stale if the lit columns, or how many columns there are, of any of its glyphs are other ones "
            + "now, or there are more glyphs")
    static void promise15IsStaleWithAGlyphMore() {
        run("""
            make(10) | sheetOf(0, 2) = 0 | glyph(600) | sheetOf(0, 2) = 1 | make(10) | sheetOf(0, 2) = 0
            glyph(100) | sheetOf(0, 2) = 1 | undo() | sheetOf(0, 2) = 0
            """);
        run("7 x glyph(600) | make(10) | sheetOf(0, 2) = 0 | glyph(600) | sheetOf(0, 2) = 1");
    }

    @Says("It is stale if the lit columns, or how many columns there are, of any of its glyphs are other ones now")
    static void promise15IsStaleWithOneColumnOfAnyGlyph() {
        run("""
            8 x glyph(600) | make(10) | stem(0, 500, 100) | sheetOf(0, 2) = 1 | cut(0, 0) | sheetOf(0, 2) = 0
            stem(7, 500, 100) | sheetOf(0, 2) = 1 | make(10) | sheetOf(0, 2) = 0 | cut(7, 0) | sheetOf(0, 2) = 1
            """);
        run("""
            glyph(1500) | set(0, 100) | standard(300) | stem(0, 0, 200) | stem(0, 200, 200) | stem(0, 400, 200)
            stem(0, 600, 200) | stem(0, 800, 157) | make(48) | sheetOf(0, 3) = 64 | sheetOf(0, 2) = 0 | cut(0, 4)
            stem(0, 800, 155) | sheetOf(0, 2) = 1 | lit(0, 48, 63) = 0 | inSheet(48, 0, 63) = 1
            """);
    }

    @Says("It is stale if the lit columns")
    static void promise15IsNotStaleIfTheColumnsAreTheSame() {
        run("""
            glyph(600) | stem(0, 100, 100) | make(10) | hint(0, 0, 2) | sheetOf(0, 2) = 0 | hint(0, 0, 3)
            sheetOf(0, 2) = 0 | standard(90) | sheetOf(0, 2) = 0 | stem(0, 900, 100) | sheetOf(0, 2) = 0
            set(1, 3) | sheetOf(0, 2) = 0 | cut(0, 0) | sheetOf(0, 2) = 1 | stem(0, 110, 100) | sheetOf(0, 2) = 0
            """);
    }

    // ---- promise 19: mean

    @Says({"NOT_FOUND if there are none", "There is no such value."})
    static void promise19FindsNoMeanOfNoStems() {
        run("mean() = NOT_FOUND | glyph(600) | mean() = NOT_FOUND | stem(0, 0, 7) | mean() = float 7/1\n"
                + "cut(0, 0) | mean() = NOT_FOUND");
    }

    @Says({"Returns the bits of the float", "All numbers are whole numbers, where no float is told."})
    static void promise19TellsTheLeastAndTheGreatestMean() {
        run("glyph(600) | stem(0, 0, 1) | mean() = 1065353216");
        run("glyph(600) | stem(0, 0, 300) | mean() = 1133903872 | stem(0, 300, 300) | mean() = 1133903872");
    }

    @Says("Returns the bits of the float")
    static void promise19TellsMeansWhereTheExponentSteps() {
        for (int width = 2; width <= 256; width *= 2) {
            run("glyph(600) | stem(0, 0, " + width + ") | mean() = float " + width + "/1 | stem(0, 500, " + (width - 1)
                    + ") | mean() = float " + (2 * width - 1) + "/2");
        }
        run("glyph(600) | stem(0, 0, 1) | stem(0, 5, 3) | mean() = 1073741824 | stem(0, 10, 2) | mean() = 1073741824");
    }

    @Says("Returns the mean width of all stems, as a float: the widths together, as a float, divided by how many "
            + "there are, as a float.")
    static void promise19DividesFloats() {
        run("""
            glyph(600) | glyph(600) | stem(0, 0, 1) | stem(0, 10, 2) | mean() = float 3/2 | stem(1, 0, 2)
            mean() = 1070945621 | stem(1, 10, 1) | mean() = float 6/4 | stem(1, 20, 300) | mean() = float 306/5
            stem(1, 400, 299) | mean() = float 605/6 | stem(1, 800, 255) | mean() = float 860/7
            standard(290) | mean() = float 860/7
            """);
        run(full() + "mean() = float 1176/48 | cut(7, 5) | mean() = float 1128/47");
    }

    // ---- promise 20: count

    @Says({"`what`: 0: glyphs; 1: stems of all glyphs; 2: standard widths; 3: sheets; 4: stale sheets; 5: the "
            + "number of unlike hinted widths; 6: sheets made so far (those made anew, too); 7: states in the "
            + "history; 8: the length of the text; 10 to 12: the standard widths, the least first; 20 and 21: "
            + "the settings 0 and 1", "Returns the number", "Returns a number."})
    static void promise20TellsOf0To8() {
        run("""
            glyph(600) | glyph(600) | stem(0, 0, 10) | stem(0, 100, 10) | stem(1, 0, 11) | standard(200)
            make(10) | make(11) | make(10) | stem(1, 400, 10) | type('g') | type('1') | type('0')
            count(0) = 2 | count(1) = 4 | count(2) = 1 | count(3) = 2 | count(4) = 2 | count(5) = 2
            count(6) = 3 | count(7) = 4 | count(8) = 3 | count(10) = 200 | count(20) = 20 | count(21) = 1
            """);
    }

    @Says("INVALID_ARGUMENT if what is out of range")
    static void promise20RefusesWhatIsBesideTheRanges() {
        run("""
            count(-1) = INVALID_ARGUMENT | count(9) = INVALID_ARGUMENT | count(13) = INVALID_ARGUMENT
            count(19) = INVALID_ARGUMENT | count(22) = INVALID_ARGUMENT | count(MIN) = INVALID_ARGUMENT
            count(MAX) = INVALID_ARGUMENT | count(14) = INVALID_ARGUMENT | count(18) = INVALID_ARGUMENT
            count(256) = INVALID_ARGUMENT | count(0) = 0 | count(8) = 0 | count(20) = 20 | count(21) = 1
            """);
    }

    @Says("NOT_FOUND for 10 to 12 if there are not so many")
    static void promise20FindsAsManyStandardWidthsAsThereAre() {
        run("""
            count(10) = NOT_FOUND | count(11) = NOT_FOUND | count(12) = NOT_FOUND | standard(300)
            count(10) = 300 | count(11) = NOT_FOUND | count(12) = NOT_FOUND | standard(1)
            count(10) = 1 | count(11) = 300 | count(12) = NOT_FOUND | standard(150)
            count(10) = 1 | count(11) = 150 | count(12) = 300 | drop(1)
            count(10) = 150 | count(11) = 300 | count(12) = NOT_FOUND
            """);
    }

    @Says("10 to 12: the standard widths, the least first")
    static void promise20SortsStandardWidthsInAnyOrder() {
        for (String order : new String[] {"1 2 3", "1 3 2", "2 1 3", "2 3 1", "3 1 2", "3 2 1"}) {
            String[] widths = order.split(" ");
            run("standard(" + widths[0] + ") | standard(" + widths[1] + ") | standard(" + widths[2] + ")\n"
                    + "count(10) = 1 | count(11) = 2 | count(12) = 3");
        }
    }

    @Says({"0: glyphs; 1: stems of all glyphs", "5: the number of unlike hinted widths"})
    static void promise20CountsAllThatIsFull() {
        run(full() + """
            standard(100) | standard(200) | standard(300) | make(6) | make(7) | make(8) | make(9)
            count(0) = 8 | count(1) = 48 | count(2) = 3 | count(3) = 4 | count(4) = 0 | count(5) = 48
            count(6) = 4 | count(7) = 4 | set(0, 52) | count(5) = 48 | set(0, 99) | count(5) = 1 | cut(0, 0)
            count(1) = 47 | count(4) = 4
            """);
    }

    @Says("5: the number of unlike hinted widths")
    static void promise20CountsNoWidthAndAlikeOnesOnce() {
        run("""
            count(5) = 0 | glyph(600) | glyph(600) | count(5) = 0 | stem(0, 0, 1) | count(5) = 1 | stem(1, 0, 1)
            count(5) = 1 | stem(1, 10, 2) | count(5) = 2 | standard(2) | count(5) = 1 | cut(1, 0) | cut(1, 0)
            count(5) = 1 | cut(0, 0) | count(5) = 0
            """);
        run("""
            glyph(600) | glyph(600) | stem(1, 0, 1) | count(5) = 1 | standard(1) | count(5) = 1 | set(0, 0)
            count(5) = 1
            """);
    }

    @Says("6: sheets made so far (those made anew, too)")
    static void promise20CountsSheetsMadeBeyondFour() {
        run("""
            make(10) | make(10) | count(6) = 2 | count(3) = 1 | make(11) | make(12) | make(13) | make(14)
            count(6) = 6 | count(3) = 4 | make(49) = INVALID_ARGUMENT | count(6) = 6
            """);
    }

    @Says("4: stale sheets")
    static void promise20CountsNoStaleSheetAndFour() {
        run("""
            count(4) = 0 | make(10) | make(11) | make(12) | make(13) | count(4) = 0 | glyph(600) | count(4) = 4
            make(11) | count(4) = 3 | make(14) | count(4) = 2 | make(12) | make(13) | count(4) = 0
            """);
    }

    @Says("7: states in the history")
    static void promise20CountsAtMostFourStates() {
        run("""
            count(7) = 0 | set(0, 1) | count(7) = 1 | set(0, 1) | count(7) = 2 | set(0, 1) | count(7) = 3
            set(0, 1) | count(7) = 4 | set(0, 1) | count(7) = 4 | undo() | count(7) = 3
            """);
    }
}
