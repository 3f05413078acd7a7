/** The edges of a new object and of the changes: promises 1 to 9, and the ways back of 21. */
final class EdgesOfChanges {
    private EdgesOfChanges() {
    }

    private static void run(String rows) {
        Script.run(rows);
    }

    // ---- promise 1: a new object

    @Says("Creates a font without glyphs")
    static void promise1HasNoGlyphsAndNoStems() {
        run("""
            count(0) = 0 | count(1) = 0 | count(5) = 0 | mean() = NOT_FOUND
            glyphOf(0, 6, 0) = INVALID_ARGUMENT | lit(0, 6, 0) = INVALID_ARGUMENT
            stemOf(0, 0, 0) = INVALID_ARGUMENT | pixels(0, 0, 6, 0) = INVALID_ARGUMENT
            clear(0) = INVALID_ARGUMENT | best(0, 0, 0) = INVALID_ARGUMENT
            stem(0, 0, 1) = INVALID_ARGUMENT | cut(0, 0) = INVALID_ARGUMENT
            hint(0, 0, 0) = INVALID_ARGUMENT | even(6) = 1 | even(48) = 1
            """);
    }

    @Says("There are at most 3 standard widths")
    static void promise1HasNoStandardWidths() {
        run("count(2) = 0 | count(10) = NOT_FOUND | drop(1) = NOT_POSSIBLE | drop(300) = NOT_POSSIBLE");
    }

    @Says("There are at most 4 sheets")
    static void promise1HasNoSheets() {
        run("""
            count(3) = 0 | count(4) = 0 | count(6) = 0 | sheetOf(0, 0) = NOT_FOUND
            inSheet(6, 0, 0) = NOT_FOUND | inSheet(48, 7, 63) = NOT_FOUND
            """);
    }

    @Says("0 the cut (0 to 100; 20), 1 the least gap (0 to 3; 1)")
    static void promise1HasTheFirstSettings() {
        run("count(20) = 20 | count(21) = 1");
        run("set(0, 20) = 20 | set(1, 1) = 1");
    }

    @Says("There is a text of at most 60 characters, initially empty")
    static void promise1HasAnEmptyText() {
        run("count(8) = 0 | fault(0) = NOT_FOUND | clearText() = 0 | play() = 0 | count(0) = 0");
    }

    @Says("A history of at most 4 states is kept")
    static void promise1HasNoHistory() {
        run("count(7) = 0 | undo() = NOT_POSSIBLE");
    }

    @Says("Creates a font without glyphs")
    static void promise1SharesNothingWithOtherObjects() {
        HintedStems first = new HintedStems();
        HintedStems second = new HintedStems();
        first.glyph(600);
        first.stem(0, 0, 10);
        first.standard(9);
        first.make(6);
        first.set(1, 3);
        first.type('g');
        for (int what = 0; what <= 8; what++) {
            Checks.due("count(" + what + ") of the other", second.count(what), 0);
        }
        Checks.due("count(21) of the other", second.count(21), 1);
        Checks.due("fault(0) of the other", second.fault(0), -1000004);
        Checks.due("undo() of the other", second.undo(), -1000002);
        Checks.due("count(0)", first.count(0), 1);
    }

    @Says("The constants: `INVALID_ARGUMENT = -1000001`: An argument is out of its range, or there is "
            + "no such glyph or stem.")
    static void promise1TellsAnArgumentOutOfItsRange() {
        Checks.due("INVALID_ARGUMENT", HintedStems.INVALID_ARGUMENT, -1000001);
        Checks.due("glyph(99)", new HintedStems().glyph(99), -1000001);
    }

    @Says("`NOT_POSSIBLE = -1000002`: The call is not possible in the present state.")
    static void promise1TellsWhatIsNotPossible() {
        Checks.due("NOT_POSSIBLE", HintedStems.NOT_POSSIBLE, -1000002);
        Checks.due("undo()", new HintedStems().undo(), -1000002);
    }

    @Says("`LIMIT_REACHED = -1000003`: A fixed limit has been reached.")
    static void promise1TellsALimit() {
        Checks.due("LIMIT_REACHED", HintedStems.LIMIT_REACHED, -1000003);
        HintedStems x = new HintedStems();
        for (int k = 0; k < 60; k++) {
            x.type(' ');
        }
        Checks.due("type(32)", x.type(' '), -1000003);
    }

    @Says("`NOT_FOUND = -1000004`: There is no such value.")
    static void promise1TellsWhatIsNotFound() {
        Checks.due("NOT_FOUND", HintedStems.NOT_FOUND, -1000004);
        Checks.due("mean()", new HintedStems().mean(), -1000004);
    }

    @Says("An object is used for at most 512 calls after it has been made")
    static void promise1AnswersTo512Calls() {
        run("510 x make(48) | undo() = 3 | count(6) = 509");
        run("511 x set(0, 100) | count(20) = 100");
        run("8 x glyph(1500) | 503 x count(0) = 8 | count(0) = 8");
    }

    // ---- promise 2: glyph

    @Says("`advance`: 100 to 1500")
    static void promise2TakesAdvancesOf100To1500() {
        run("""
            glyph(100) = 0 | glyph(1500) = 1 | glyph(101) = 2 | glyph(1499) = 3 | count(0) = 4
            glyphOf(0, 45, 0) = 5 | glyphOf(1, 40, 0) = 60
            """);
    }

    @Says("INVALID_ARGUMENT if advance is out of range")
    static void promise2RefusesAdvancesBeside() {
        run("""
            glyph(99) = INVALID_ARGUMENT | glyph(1501) = INVALID_ARGUMENT | glyph(0) = INVALID_ARGUMENT
            glyph(-1) = INVALID_ARGUMENT | glyph(-100) = INVALID_ARGUMENT | glyph(MIN) = INVALID_ARGUMENT
            glyph(MAX) = INVALID_ARGUMENT | glyph(65636) = INVALID_ARGUMENT | count(0) = 0 | count(7) = 0
            glyph(600) = 0 | glyph(99) = INVALID_ARGUMENT | glyph(1501) = INVALID_ARGUMENT | count(0) = 1
            """);
    }

    @Says({"Returns its number", "numbered from 0 in the order in which they came", "Adds a glyph."})
    static void promise2NumbersFrom0InTheirOrder() {
        run("""
            glyph(800) = 0 | glyph(100) = 1 | glyph(700) = 2 | glyph(300) = 3
            glyph(400) = 4 | glyph(600) = 5 | glyph(200) = 6 | glyph(500) = 7
            glyphOf(0, 10, 0) = 8 | glyphOf(1, 10, 0) = 1 | glyphOf(2, 10, 0) = 7
            glyphOf(3, 10, 0) = 3 | glyphOf(4, 10, 0) = 4 | glyphOf(5, 10, 0) = 6
            glyphOf(6, 10, 0) = 2 | glyphOf(7, 10, 0) = 5
            """);
    }

    @Says({"LIMIT_REACHED if there are 8", "There are at most 8 glyphs"})
    static void promise2RefusesANinth() {
        run("""
            7 x glyph(600) | glyph(700) = 7 | glyph(700) = LIMIT_REACHED | count(0) = 8
            glyph(100) = LIMIT_REACHED | glyph(1500) = LIMIT_REACHED
            undo() = 3 | count(0) = 7 | glyph(1000) = 7 | glyphOf(7, 10, 0) = 10
            glyph(700) = LIMIT_REACHED
            """);
    }

    @Says("If several errors apply to a call, INVALID_ARGUMENT is returned rather than NOT_POSSIBLE")
    static void promise2TellsTheRangeAheadOfTheLimit() {
        run("8 x glyph(600) | glyph(99) = INVALID_ARGUMENT | glyph(1501) = INVALID_ARGUMENT | count(0) = 8");
    }

    // ---- promise 3: stem

    @Says({"`glyph`: number of the glyph",
        "If there is no glyph or stem with a certain number, this is INVALID_ARGUMENT."})
    static void promise3TakesGlyphsThatThereAre() {
        run("""
            stem(0, 0, 1) = INVALID_ARGUMENT
            glyph(600) = 0 | stem(0, 0, 1) = 0 | stem(1, 0, 1) = INVALID_ARGUMENT
            glyph(600) = 1 | glyph(600) = 2 | stem(2, 0, 1) = 0 | stem(3, 0, 1) = INVALID_ARGUMENT
            stem(-1, 500, 1) = INVALID_ARGUMENT | stem(8, 500, 1) = INVALID_ARGUMENT
            stem(MIN, 500, 1) = INVALID_ARGUMENT | stem(MAX, 500, 1) = INVALID_ARGUMENT
            stem(715827883, 500, 1) = INVALID_ARGUMENT | count(1) = 2
            """);
    }

    @Says("`place`: 0 to 999")
    static void promise3TakesPlacesOf0To999() {
        run("""
            glyph(600) | stem(0, 0, 1) = 0 | stem(0, 999, 1) = 1 | stem(0, 998, 1) = 1
            stemOf(0, 0, 0) = 0 | stemOf(0, 1, 0) = 998 | stemOf(0, 2, 0) = 999
            """);
    }

    @Says("`width`: 1 to 300")
    static void promise3TakesWidthsOf1To300() {
        run("""
            glyph(600) | stem(0, 0, 1) = 0 | stem(0, 1, 300) = 1 | stem(0, 301, 299) = 2
            stem(0, 999, 300) = 3 | stemOf(0, 0, 1) = 1 | stemOf(0, 1, 1) = 300
            stemOf(0, 2, 1) = 299 | stemOf(0, 3, 1) = 300
            """);
    }

    @Says("INVALID_ARGUMENT if an argument is out of range")
    static void promise3RefusesPlacesAndWidthsBeside() {
        run("""
            glyph(600) | stem(0, -1, 1) = INVALID_ARGUMENT | stem(0, 1000, 1) = INVALID_ARGUMENT
            stem(0, MIN, 1) = INVALID_ARGUMENT | stem(0, MAX, 1) = INVALID_ARGUMENT
            stem(0, -1, 300) = INVALID_ARGUMENT | stem(0, -300, 300) = INVALID_ARGUMENT
            stem(0, 0, 0) = INVALID_ARGUMENT | stem(0, 0, 301) = INVALID_ARGUMENT
            stem(0, 0, -1) = INVALID_ARGUMENT | stem(0, 999, -300) = INVALID_ARGUMENT
            stem(0, 0, MIN) = INVALID_ARGUMENT | stem(0, 0, MAX) = INVALID_ARGUMENT
            stem(0, MAX, MAX) = INVALID_ARGUMENT | stem(0, MIN, MIN) = INVALID_ARGUMENT
            stem(0, 65536, 1) = INVALID_ARGUMENT | count(1) = 0
            """);
    }

    @Says("each begins at the end of the one to its left, or behind it")
    static void promise3TakesStemsThatTouch() {
        run("""
            glyph(600) | stem(0, 100, 50) = 0 | stem(0, 150, 50) = 1 | stem(0, 50, 50) = 0
            stem(0, 201, 50) = 3 | stem(0, 49, 1) = 0 | stem(0, 0, 48) = 0
            stemOf(0, 1, 6) = 1 | stemOf(0, 2, 6) = 0 | stemOf(0, 3, 6) = 0 | stemOf(0, 4, 6) = 0
            stemOf(0, 5, 6) = 1
            """);
        run("glyph(600) | stem(0, 0, 100) = 0 | stem(0, 200, 100) = 1 | stem(0, 100, 100) = 1");
    }

    @Says({"NOT_POSSIBLE if it would overlap another one", "and do not overlap"})
    static void promise3RefusesToOverlapByOneUnit() {
        run("""
            glyph(600) | stem(0, 100, 50) = 0
            stem(0, 149, 1) = NOT_POSSIBLE | stem(0, 149, 300) = NOT_POSSIBLE
            stem(0, 100, 1) = NOT_POSSIBLE | stem(0, 99, 2) = NOT_POSSIBLE | stem(0, 0, 101) = NOT_POSSIBLE
            stem(0, 100, 50) = NOT_POSSIBLE | stem(0, 120, 5) = NOT_POSSIBLE
            stem(0, 0, 300) = NOT_POSSIBLE | stem(0, 150, 1) = 1 | stem(0, 0, 100) = 0
            stem(0, 99, 1) = NOT_POSSIBLE | stem(0, 0, 1) = NOT_POSSIBLE | stem(0, 150, 1) = NOT_POSSIBLE
            count(1) = 3 | glyph(600) = 1 | stem(1, 100, 50) = 0
            """);
    }

    @Says({"LIMIT_REACHED if there are 6", "and at most 6 stems"})
    static void promise3RefusesASeventh() {
        run("""
            glyph(600) | glyph(600) | stem(0, 0, 1) | stem(0, 100, 1) | stem(0, 200, 1)
            stem(0, 300, 1) | stem(0, 400, 1) = 4 | stem(0, 500, 1) = 5
            stem(0, 600, 1) = LIMIT_REACHED | stem(0, 1, 1) = LIMIT_REACHED | stem(0, 999, 300) = LIMIT_REACHED
            count(1) = 6 | stem(1, 0, 1) = 0 | cut(0, 0) = 5 | stem(0, 600, 1) = 5
            stem(0, 0, 1) = LIMIT_REACHED
            """);
    }

    @Says("NOT_POSSIBLE rather than LIMIT_REACHED")
    static void promise3TellsTheRangeAheadOfOverlapAheadOfTheLimit() {
        run("""
            glyph(600) | stem(0, 0, 10) | stem(0, 100, 10) | stem(0, 200, 10) | stem(0, 300, 10)
            stem(0, 400, 10) | stem(0, 500, 10) = 5
            stem(0, 0, 10) = NOT_POSSIBLE | stem(0, 509, 1) = NOT_POSSIBLE | stem(0, 499, 2) = NOT_POSSIBLE
            stem(0, 0, 0) = INVALID_ARGUMENT | stem(0, 0, 301) = INVALID_ARGUMENT
            stem(0, -1, 10) = INVALID_ARGUMENT | stem(0, 1000, 10) = INVALID_ARGUMENT
            stem(1, 0, 10) = INVALID_ARGUMENT | stem(0, 510, 1) = LIMIT_REACHED
            """);
    }

    @Says({"Returns its number", "stems of a glyph are numbered from 0 by their places"})
    static void promise3NumbersByPlaces() {
        run("""
            glyph(600) | stem(0, 500, 10) = 0 | stem(0, 0, 10) = 0 | stem(0, 999, 10) = 2
            stem(0, 250, 10) = 1 | stem(0, 750, 10) = 3 | stem(0, 10, 10) = 1
            stemOf(0, 0, 0) = 0 | stemOf(0, 1, 0) = 10 | stemOf(0, 2, 0) = 250
            stemOf(0, 3, 0) = 500 | stemOf(0, 4, 0) = 750 | stemOf(0, 5, 0) = 999
            """);
    }

    @Says("Adds a stem to a glyph, which is hinted by its left edge; stems to its right have numbers "
            + "that are greater by 1 then.")
    static void promise3MovesFiveToTheRight() {
        run("""
            glyph(600) | glyph(600) | stem(1, 7, 70) | hint(1, 0, 2)
            stem(0, 100, 1) | stem(0, 200, 2) | stem(0, 300, 3) | stem(0, 400, 4) | stem(0, 500, 5)
            hint(0, 0, 3) = 0 | hint(0, 1, 2) = 0 | hint(0, 2, 1) = 0 | hint(0, 3, 3) = 0 | hint(0, 4, 2) = 0
            stem(0, 0, 9) = 0
            stemOf(0, 0, 2) = 0 | stemOf(0, 1, 2) = 3 | stemOf(0, 2, 2) = 2 | stemOf(0, 3, 2) = 1
            stemOf(0, 4, 2) = 3 | stemOf(0, 5, 2) = 2
            stemOf(0, 0, 1) = 9 | stemOf(0, 1, 1) = 1 | stemOf(0, 2, 1) = 2 | stemOf(0, 3, 1) = 3
            stemOf(0, 4, 1) = 4 | stemOf(0, 5, 1) = 5 | stemOf(0, 5, 0) = 500
            stemOf(1, 0, 0) = 7 | stemOf(1, 0, 1) = 70 | stemOf(1, 0, 2) = 2
            """);
    }

    @Says("0 its left edge is rounded (at first)")
    static void promise3HintsByTheLeftEdgeWhereAnotherHintWas() {
        run("""
            glyph(600) | stem(0, 100, 10) | hint(0, 0, 3) = 0 | cut(0, 0) = 0 | stem(0, 100, 10) = 0
            stemOf(0, 0, 2) = 0 | hint(0, 0, 2) = 0 | stem(0, 50, 10) = 0 | stemOf(0, 0, 2) = 0
            stemOf(0, 1, 2) = 2
            """);
    }

    // ---- promise 4: cut

    @Says({"Returns how many stems the glyph has then", "Cuts a stem out of a glyph"})
    static void promise4CutsTheLastOneThatIsLeft() {
        run("""
            glyph(600) | glyph(600) | stem(0, 0, 1) | stem(1, 0, 1) | stem(1, 10, 1)
            cut(0, 0) = 0 | cut(0, 0) = INVALID_ARGUMENT | count(1) = 2 | glyphOf(0, 10, 1) = 0
            cut(1, 1) = 1 | cut(1, 1) = INVALID_ARGUMENT | cut(1, 0) = 0 | mean() = NOT_FOUND
            """);
    }

    @Says("those to its right have numbers that are less by 1 then")
    static void promise4CutsTheFirstAndTheLastOfSix() {
        String six = """
            glyph(600) | stem(0, 0, 1) | stem(0, 100, 2) | stem(0, 200, 3) | stem(0, 300, 4)
            stem(0, 400, 5) | stem(0, 500, 6) | hint(0, 1, 1) | hint(0, 2, 2) | hint(0, 5, 3)
            """;
        run(six + """
            cut(0, 0) = 5 | stemOf(0, 0, 0) = 100 | stemOf(0, 4, 0) = 500 | stemOf(0, 4, 1) = 6
            stemOf(0, 0, 2) = 1 | stemOf(0, 1, 2) = 2 | stemOf(0, 4, 2) = 3 | stemOf(0, 3, 2) = 0
            stemOf(0, 5, 0) = INVALID_ARGUMENT | cut(0, 5) = INVALID_ARGUMENT
            """);
        run(six + """
            cut(0, 5) = 5 | stemOf(0, 0, 0) = 0 | stemOf(0, 4, 0) = 400 | stemOf(0, 4, 2) = 0
            stemOf(0, 5, 0) = INVALID_ARGUMENT | count(1) = 5
            """);
        run(six + """
            cut(0, 3) = 5 | stemOf(0, 2, 0) = 200 | stemOf(0, 3, 0) = 400 | stemOf(0, 4, 0) = 500
            stemOf(0, 3, 1) = 5 | stemOf(0, 4, 2) = 3 | stemOf(0, 3, 6) = 197
            """);
    }

    @Says({"`glyph`: number of the glyph", "`stem`: number of the stem", "INVALID_ARGUMENT"})
    static void promise4RefusesStemsThatThereAreNot() {
        String two = """
            glyph(600) | glyph(600) | glyph(600) | stem(0, 0, 1) | stem(0, 10, 1) | stem(0, 20, 1)
            stem(0, 30, 1) | stem(0, 40, 1) | stem(0, 50, 1) | stem(1, 0, 1) | stem(1, 10, 1)
            """;
        run("cut(0, 0) = INVALID_ARGUMENT | glyph(600) | cut(0, 0) = INVALID_ARGUMENT");
        run(two + """
            cut(0, 6) = INVALID_ARGUMENT | cut(1, -1) = INVALID_ARGUMENT | cut(0, -1) = INVALID_ARGUMENT
            cut(1, 2) = INVALID_ARGUMENT | cut(2, 0) = INVALID_ARGUMENT | cut(2, -6) = INVALID_ARGUMENT
            cut(3, 0) = INVALID_ARGUMENT | cut(-1, 0) = INVALID_ARGUMENT | cut(-1, 6) = INVALID_ARGUMENT
            cut(8, 0) = INVALID_ARGUMENT | cut(MIN, 0) = INVALID_ARGUMENT | cut(MAX, 0) = INVALID_ARGUMENT
            cut(0, MIN) = INVALID_ARGUMENT | cut(0, MAX) = INVALID_ARGUMENT
            cut(715827883, 0) = INVALID_ARGUMENT | count(1) = 8 | cut(1, 1) = 1 | cut(0, 5) = 5
            """);
    }

    // ---- promise 5: hint

    @Says({"`hint`: 0 to 3", "Hints a stem."})
    static void promise5TakesHintsOf0To3() {
        run("""
            glyph(600) | stem(0, 0, 1) | hint(0, 0, 3) = 0 | stemOf(0, 0, 2) = 3
            hint(0, 0, 2) = 3 | stemOf(0, 0, 2) = 2 | hint(0, 0, 1) = 2 | stemOf(0, 0, 2) = 1
            hint(0, 0, 0) = 1 | stemOf(0, 0, 2) = 0
            """);
    }

    @Says("INVALID_ARGUMENT if an argument is out of range")
    static void promise5RefusesHintsBeside() {
        run("""
            glyph(600) | stem(0, 0, 1) | hint(0, 0, 2) = 0
            hint(0, 0, -1) = INVALID_ARGUMENT | hint(0, 0, 4) = INVALID_ARGUMENT
            hint(0, 0, MIN) = INVALID_ARGUMENT | hint(0, 0, MAX) = INVALID_ARGUMENT
            hint(0, 0, 256) = INVALID_ARGUMENT | stemOf(0, 0, 2) = 2
            """);
    }

    @Says({"`glyph`: number of the glyph", "`stem`: number of the stem"})
    static void promise5RefusesStemsThatThereAreNot() {
        run("hint(0, 0, 0) = INVALID_ARGUMENT | glyph(600) | hint(0, 0, 0) = INVALID_ARGUMENT");
        run("""
            glyph(600) | glyph(600) | glyph(600) | stem(0, 0, 1) | stem(0, 10, 1) | stem(0, 20, 1)
            stem(0, 30, 1) | stem(0, 40, 1) | stem(0, 50, 1) | stem(1, 0, 1) | stem(1, 10, 1)
            hint(0, 6, 1) = INVALID_ARGUMENT | hint(1, -1, 1) = INVALID_ARGUMENT
            hint(1, 2, 1) = INVALID_ARGUMENT | hint(2, 0, 1) = INVALID_ARGUMENT
            hint(3, 0, 1) = INVALID_ARGUMENT | hint(-1, 0, 1) = INVALID_ARGUMENT
            hint(-1, 6, 1) = INVALID_ARGUMENT | hint(8, 0, 1) = INVALID_ARGUMENT
            hint(MIN, 0, 1) = INVALID_ARGUMENT | hint(MAX, 0, 1) = INVALID_ARGUMENT
            hint(0, MIN, 1) = INVALID_ARGUMENT | hint(0, MAX, 1) = INVALID_ARGUMENT
            hint(715827883, 0, 1) = INVALID_ARGUMENT | hint(1, 1, 1) = 0 | hint(0, 5, 1) = 0
            """);
    }

    @Says("Returns what it was")
    static void promise5IsAChangeAlsoWithTheSameHint() {
        run("""
            glyph(600) | stem(0, 0, 1) | count(7) = 2 | hint(0, 0, 0) = 0 | count(7) = 3
            hint(0, 0, 0) = 0 | count(7) = 4 | undo() = 3 | undo() = 2 | count(1) = 1
            """);
    }

    // ---- promise 6: standard

    @Says({"`width`: 1 to 300", "There are at most 3 standard widths (1 to 300, all unlike)."})
    static void promise6TakesWidthsOf1To300() {
        run("""
            standard(300) = 0 | standard(1) = 0 | standard(299) = 0
            count(10) = 1 | count(11) = 299 | count(12) = 300
            """);
        run("glyph(600) | stem(0, 0, 1) | stem(0, 1, 300) | standard(1) = 1 | standard(300) = 1");
    }

    @Says("INVALID_ARGUMENT if width is out of range")
    static void promise6RefusesWidthsBeside() {
        run("""
            standard(0) = INVALID_ARGUMENT | standard(301) = INVALID_ARGUMENT
            standard(-1) = INVALID_ARGUMENT | standard(MIN) = INVALID_ARGUMENT
            standard(MAX) = INVALID_ARGUMENT | standard(65537) = INVALID_ARGUMENT | count(2) = 0
            """);
    }

    @Says("NOT_POSSIBLE if it is one")
    static void promise6RefusesOneThatThereIs() {
        run("""
            standard(1) = 0 | standard(1) = NOT_POSSIBLE | standard(300) = 0 | standard(300) = NOT_POSSIBLE
            standard(150) = 0 | standard(150) = NOT_POSSIBLE | standard(1) = NOT_POSSIBLE | count(2) = 3
            drop(1) = 2 | standard(1) = 0 | standard(1) = NOT_POSSIBLE
            """);
    }

    @Says("LIMIT_REACHED if there are 3")
    static void promise6RefusesAFourth() {
        run("""
            standard(10) = 0 | standard(20) = 0 | standard(30) = 0 | standard(40) = LIMIT_REACHED
            standard(1) = LIMIT_REACHED | standard(300) = LIMIT_REACHED | count(2) = 3 | count(12) = 30
            drop(10) = 2 | standard(40) = 0 | standard(10) = LIMIT_REACHED | count(10) = 20
            """);
    }

    @Says("NOT_POSSIBLE rather than LIMIT_REACHED")
    static void promise6TellsTheRangeAheadOfOneThatIsAheadOfTheLimit() {
        run("""
            standard(10) | standard(20) | standard(30) | standard(10) = NOT_POSSIBLE
            standard(20) = NOT_POSSIBLE | standard(30) = NOT_POSSIBLE | standard(0) = INVALID_ARGUMENT
            standard(301) = INVALID_ARGUMENT | standard(11) = LIMIT_REACHED
            """);
    }

    @Says({"Returns how many stems snap to it", "if it differs by setting 0 at most", "Adds a standard width."})
    static void promise6CountsThoseThatDifferBySetting0() {
        run("""
            glyph(600) | stem(0, 0, 79) | stem(0, 100, 80) | stem(0, 200, 120) | stem(0, 400, 121)
            standard(100) = 2 | stemOf(0, 0, 4) = NOT_FOUND | stemOf(0, 1, 4) = 100
            stemOf(0, 2, 4) = 100 | stemOf(0, 3, 4) = NOT_FOUND
            """);
        run("""
            glyph(600) | set(0, 0) | stem(0, 0, 100) | stem(0, 100, 99) | stem(0, 200, 101)
            standard(100) = 1 | set(0, 1) = 0 | stemOf(0, 1, 4) = 100 | stemOf(0, 2, 4) = 100
            """);
        run("""
            glyph(600) | set(0, 100) | stem(0, 0, 99) | stem(0, 100, 100) | stem(0, 200, 300)
            standard(200) = 2 | stemOf(0, 0, 4) = NOT_FOUND | stemOf(0, 0, 3) = 99
            """);
    }

    @Says("Returns how many stems snap to it")
    static void promise6CountsNoneAndAllOf48() {
        run("standard(100) = 0");
        run("glyph(600) | stem(0, 0, 121) | standard(100) = 0");
        StringBuilder full = new StringBuilder("8 x glyph(600)\n");
        for (int k = 0; k < 48; k++) {
            full.append("stem(" + k / 6 + ", " + k % 6 * 100 + ", " + (80 + k % 20) + ")\n");
        }
        run(full + "standard(90) = 48 | standard(85) = 24 | standard(99) = 10 | stemOf(7, 5, 5) = 24");
    }

    @Says("the standard width that differs least from its width, of two the lesser one")
    static void promise6SnapsToTheLesserOfTwo() {
        run("""
            glyph(600) | stem(0, 0, 80) | standard(90) = 1 | standard(70) = 1 | stemOf(0, 0, 4) = 70
            standard(81) = 1 | stemOf(0, 0, 4) = 81
            """);
        run("""
            glyph(600) | stem(0, 0, 80) | standard(70) = 1 | standard(90) = 0 | stemOf(0, 0, 4) = 70
            standard(89) = 1 | stemOf(0, 0, 3) = 89
            """);
        run("""
            glyph(600) | stem(0, 0, 80) | standard(60) = 1 | standard(100) = 0 | stemOf(0, 0, 4) = 60
            drop(60) = 1 | stemOf(0, 0, 4) = 100
            """);
    }

    // ---- promise 7: drop

    @Says({"`width`: 1 to 300", "INVALID_ARGUMENT if width is out of range"})
    static void promise7TakesWidthsOf1To300AndNoneBeside() {
        run("""
            standard(1) | standard(300) | drop(0) = INVALID_ARGUMENT | drop(301) = INVALID_ARGUMENT
            drop(-1) = INVALID_ARGUMENT | drop(MIN) = INVALID_ARGUMENT | drop(MAX) = INVALID_ARGUMENT
            drop(65537) = INVALID_ARGUMENT | count(2) = 2 | drop(1) = 1 | drop(300) = 0
            """);
    }

    @Says("NOT_POSSIBLE if it is none")
    static void promise7RefusesOneThatThereIsNot() {
        run("""
            drop(1) = NOT_POSSIBLE | drop(300) = NOT_POSSIBLE | standard(100) | drop(99) = NOT_POSSIBLE
            drop(101) = NOT_POSSIBLE | drop(100) = 0 | drop(100) = NOT_POSSIBLE
            """);
    }

    @Says("INVALID_ARGUMENT is returned rather than NOT_POSSIBLE")
    static void promise7TellsTheRangeAheadOfOneThatIsNot() {
        run("drop(0) = INVALID_ARGUMENT | drop(301) = INVALID_ARGUMENT | drop(300) = NOT_POSSIBLE");
    }

    @Says({"Returns how many there are then", "Drops a standard width."})
    static void promise7DropsTheLeastTheMiddleAndTheGreatest() {
        String three = "standard(20) | standard(30) | standard(10)\n";
        run(three + "drop(10) = 2 | count(10) = 20 | count(11) = 30 | count(12) = NOT_FOUND");
        run(three + "drop(20) = 2 | count(10) = 10 | count(11) = 30 | count(12) = NOT_FOUND");
        run(three + "drop(30) = 2 | count(10) = 10 | count(11) = 20 | count(12) = NOT_FOUND");
        run(three + "drop(30) = 2 | drop(10) = 1 | count(10) = 20 | count(11) = NOT_FOUND\n"
                + "drop(20) = 0 | count(10) = NOT_FOUND | count(2) = 0");
    }

    @Says("its hinted width is that, otherwise its own")
    static void promise7GivesStemsTheirOwnWidthsBack() {
        run("""
            glyph(600) | stem(0, 0, 80) | standard(90) = 1 | stemOf(0, 0, 3) = 90 | drop(90) = 0
            stemOf(0, 0, 3) = 80 | stemOf(0, 0, 4) = NOT_FOUND
            """);
    }

    // ---- promise 8: make

    @Says("`size`: 6 to 48")
    static void promise8TakesSizesOf6To48() {
        run("make(6) = 1 | make(48) = 2 | make(7) = 3 | make(47) = 4 | sheetOf(0, 0) = 6 | sheetOf(1, 0) = 48");
    }

    @Says("INVALID_ARGUMENT if size is out of range")
    static void promise8RefusesSizesBeside() {
        run("""
            make(5) = INVALID_ARGUMENT | make(49) = INVALID_ARGUMENT | make(0) = INVALID_ARGUMENT
            make(-6) = INVALID_ARGUMENT | make(MIN) = INVALID_ARGUMENT | make(MAX) = INVALID_ARGUMENT
            count(3) = 0 | count(6) = 0 | make(6) = 1 | make(5) = INVALID_ARGUMENT
            make(49) = INVALID_ARGUMENT | count(6) = 1
            """);
    }

    @Says({"Returns how many sheets there are then", "There are at most 4 sheets"})
    static void promise8HoldsFour() {
        run("""
            make(10) = 1 | make(11) = 2 | make(12) = 3 | make(13) = 4 | make(14) = 4 | make(15) = 4
            count(3) = 4 | sheetOf(3, 0) = 15 | sheetOf(4, 0) = NOT_FOUND
            """);
    }

    @Says("When a fifth one is made, the one that was made (or made anew) longest ago is gone.")
    static void promise8LosesTheOldestForAFifth() {
        run("""
            glyph(600) | make(10) | make(11) | make(12) | make(13) = 4 | inSheet(10, 0, 0) = 0
            make(14) = 4 | inSheet(10, 0, 0) = NOT_FOUND | inSheet(11, 0, 0) = 0 | inSheet(14, 0, 0) = 0
            sheetOf(0, 0) = 11 | sheetOf(1, 0) = 12 | sheetOf(2, 0) = 13 | sheetOf(3, 0) = 14
            make(10) = 4 | inSheet(11, 0, 0) = NOT_FOUND | sheetOf(0, 0) = 12 | sheetOf(3, 0) = 10
            make(15) | make(16) | make(17) | sheetOf(0, 0) = 10 | make(18) = 4 | sheetOf(0, 0) = 15
            """);
    }

    @Says("the one that was made (or made anew) longest ago is gone")
    static void promise8KeepsOneThatWasMadeAnew() {
        run("""
            glyph(600) | make(10) | make(11) | make(12) | make(13) | make(10) = 4 | sheetOf(0, 0) = 11
            make(14) = 4 | inSheet(11, 0, 0) = NOT_FOUND | inSheet(10, 0, 0) = 0
            sheetOf(0, 0) = 12 | sheetOf(2, 0) = 10 | sheetOf(3, 0) = 14
            """);
    }

    @Says({"and no two of the same size", "making a sheet of a size that has one makes it anew",
        "Makes the sheet of a size, or makes it anew."})
    static void promise8MakesASizeAnewAndNoneIsGone() {
        run("""
            glyph(600) | stem(0, 0, 100) | make(10) = 1 | make(10) = 1 | sheetOf(1, 0) = NOT_FOUND
            make(11) = 2 | make(12) = 3 | make(13) = 4 | make(13) = 4 | make(10) = 4 | make(11) = 4
            sheetOf(0, 0) = 12 | sheetOf(1, 0) = 13 | sheetOf(2, 0) = 10 | sheetOf(3, 0) = 11
            cut(0, 0) | make(12) = 4 | inSheet(12, 0, 0) = 0 | inSheet(13, 0, 0) = 1 | count(4) = 3
            """);
    }

    @Says("A sheet keeps of each glyph that there was when it was made its lit columns, as they were.")
    static void promise8MakesASheetOfNoGlyphAndOfEight() {
        run("make(10) = 1 | sheetOf(0, 1) = 0 | sheetOf(0, 3) = 0 | sheetOf(0, 2) = 0 | inSheet(10, 0, 0) = NOT_FOUND");
        run("""
            8 x glyph(100) | stem(7, 0, 100) | make(10) = 1 | sheetOf(0, 1) = 8 | sheetOf(0, 3) = 1
            inSheet(10, 7, 0) = 1 | inSheet(10, 6, 0) = 0 | inSheet(10, 7, 1) = NOT_FOUND
            """);
    }

    @Says("A sheet keeps of each glyph that there was when it was made its lit columns, as they were.")
    static void promise8ForgetsWhatTheGoneSheetKept() {
        run("""
            glyph(600) | glyph(600) | stem(1, 0, 300) | make(10)
            undo() | undo() | undo() = 1 | count(0) = 1 | make(10) = 1 | sheetOf(0, 1) = 1
            sheetOf(0, 3) = 0 | inSheet(10, 1, 0) = NOT_FOUND
            """);
    }

    @Says("A sheet keeps of each glyph that there was when it was made its lit columns, as they were.")
    static void promise8LeavesTheSheetsBesideOneOfEightGlyphs() {
        run("""
            8 x glyph(300) | stem(0, 0, 100) | make(10) | make(11) | make(12) | make(13) = 4
            make(10) = 4 | make(12) = 4 | inSheet(11, 0, 0) = 1 | inSheet(13, 0, 0) = 1 | inSheet(11, 0, 1) = 0
            inSheet(13, 0, 3) = 0 | inSheet(10, 0, 0) = 1 | inSheet(12, 0, 0) = 1 | count(4) = 0
            """);
    }

    // ---- promise 9: set

    @Says({"`what`: 0 or 1", "Sets a setting."})
    static void promise9TakesTheSettings0And1() {
        run("""
            set(0, 3) = 20 | set(1, 2) = 1 | count(20) = 3 | count(21) = 2
            set(-1, 0) = INVALID_ARGUMENT | set(2, 0) = INVALID_ARGUMENT | set(MIN, 0) = INVALID_ARGUMENT
            set(MAX, 0) = INVALID_ARGUMENT | set(20, 0) = INVALID_ARGUMENT | count(20) = 3 | count(21) = 2
            """);
    }

    @Says({"`value`: a value in its range", "The settings are (in parentheses: range; first value): "
            + "0 the cut (0 to 100; 20), 1 the least gap (0 to 3; 1)."})
    static void promise9TakesTheEndsOfTheRanges() {
        run("""
            set(0, 0) = 20 | count(20) = 0 | set(0, 100) = 0 | count(20) = 100
            set(1, 0) = 1 | count(21) = 0 | set(1, 3) = 0 | count(21) = 3
            """);
    }

    @Says("INVALID_ARGUMENT if an argument is out of range")
    static void promise9RefusesValuesBeside() {
        run("""
            set(0, -1) = INVALID_ARGUMENT | set(0, 101) = INVALID_ARGUMENT | set(0, MIN) = INVALID_ARGUMENT
            set(0, MAX) = INVALID_ARGUMENT | set(1, -1) = INVALID_ARGUMENT | set(1, 4) = INVALID_ARGUMENT
            set(1, 20) = INVALID_ARGUMENT | set(1, MIN) = INVALID_ARGUMENT | set(1, MAX) = INVALID_ARGUMENT
            count(20) = 20 | count(21) = 1 | count(7) = 0
            """);
    }

    @Says("Returns what it was")
    static void promise9IsAChangeAlsoWithTheSameValue() {
        run("""
            set(0, 20) = 20 | set(1, 1) = 1 | count(7) = 2 | set(0, 0) = 20 | set(0, 0) = 0 | count(7) = 4
            undo() = 3 | count(20) = 0 | undo() = 2 | count(20) = 20
            """);
    }

    // ---- promise 21: undo

    @Says({"NOT_POSSIBLE if it is empty", "The call is not possible in the present state."})
    static void promise21RefusesWithNoStateLeft() {
        run("""
            undo() = NOT_POSSIBLE | glyph(99) = INVALID_ARGUMENT | undo() = NOT_POSSIBLE | glyph(100)
            undo() = 0 | undo() = NOT_POSSIBLE | count(0) = 0 | count(7) = 0
            """);
    }

    @Says({"A history of at most 4 states is kept: each change records everything before it but the "
            + "text, and if there are 5 states then, the oldest one is dropped.",
        "Returns the number of states that are left in the history"})
    static void promise21DropsTheOldestOfFive() {
        run("""
            glyph(100) | glyph(200) | glyph(300) | count(7) = 3 | glyph(400) | count(7) = 4
            undo() = 3 | undo() = 2 | undo() = 1 | undo() = 0 | count(0) = 0 | undo() = NOT_POSSIBLE
            """);
        run("""
            5 x glyph(100) | count(7) = 4 | undo() = 3 | count(0) = 4 | undo() = 2 | count(0) = 3
            undo() = 1 | count(0) = 2 | undo() = 0 | count(0) = 1 | undo() = NOT_POSSIBLE | count(0) = 1
            """);
    }

    @Says("the oldest one is dropped")
    static void promise21GoesRoundAndRound() {
        StringBuilder rounds = new StringBuilder();
        for (int k = 0; k < 24; k++) {
            rounds.append("set(0, " + k + ") | set(0, " + (k + 50) + ") | undo() = "
                    + Math.min(k + 1, 3) + " | count(20) = " + k + "\n");
        }
        run(rounds + "undo() = 2 | count(20) = 22 | undo() = 1 | count(20) = 21 | undo() = 0\n"
                + "count(20) = 20 | undo() = NOT_POSSIBLE");
    }

    @Says("Restores the latest state of the history, which is removed from it.")
    static void promise21IsNoChangeItself() {
        run("""
            set(0, 1) | set(0, 2) | undo() = 1 | count(20) = 1 | undo() = 0 | count(20) = 20
            undo() = NOT_POSSIBLE | set(0, 3) = 20 | count(7) = 1
            """);
    }

    @Says("each change records everything before it but the text")
    static void promise21LeavesTheText() {
        run("""
            write "g600;"
            glyph(700) | type('x') = 6 | undo() = 0 | count(8) = 6 | fault(0) = 5
            clearText() = 6 | glyph(700) | undo() = 0 | count(8) = 0 | clearText() = 0
            """);
    }

    @Says("The changes are the calls of glyph, stem, cut, hint, standard, drop, make, set and play "
            + "that return no error.")
    static void promise21TakesEachChangeBack() {
        run("glyph(600) | count(7) = 1 | undo() = 0 | count(0) = 0");
        run("glyph(600) | stem(0, 5, 6) | count(7) = 2 | undo() = 1 | count(1) = 0");
        run("glyph(600) | stem(0, 5, 6) | cut(0, 0) | count(7) = 3 | undo() = 2 | stemOf(0, 0, 1) = 6");
        run("glyph(600) | stem(0, 5, 6) | hint(0, 0, 2) | count(7) = 3 | undo() = 2 | stemOf(0, 0, 2) = 0");
        run("standard(70) | count(7) = 1 | undo() = 0 | count(2) = 0 | count(10) = NOT_FOUND");
        run("standard(70) | drop(70) | count(7) = 2 | undo() = 1 | count(10) = 70");
        run("make(9) | count(7) = 1 | undo() = 0 | count(3) = 0 | count(6) = 0");
        run("set(1, 3) | count(7) = 1 | undo() = 0 | count(21) = 1");
        run("play() = 0 | count(7) = 1 | undo() = 0 | count(7) = 0");
    }

    @Says("each change records everything before it but the text, and if there are 5 states then")
    static void promise21BringsBackAllThatThereWas() {
        // three changes at most, so that no state is dropped
        String before = """
            write "g600;g900;s0,100,80;s0,300,9;h0,1,3;w85;w7;m10;m9;"
            play() = 9 | set(0, 33)
            """;
        String[] changes = {"glyph(700)", "stem(0, 0, 5)", "stem(1, 0, 5)", "cut(0, 0)", "cut(0, 1)", "hint(0, 0, 1)",
            "hint(0, 1, 3)", "standard(9)", "drop(85)", "drop(7)", "make(48)", "make(9)", "make(10)", "set(0, 0)",
            "set(1, 3)", "set(0, 33)"};
        for (String change : changes) {
            Script.leadsBack(before, change + " | undo()");
            Script.leadsBack(before + "set(1, 2)", change + " | undo()");
        }
        Script.leadsBack("write \"g600;s0,100,80;w85;m10;\"\nset(0, 33) | set(1, 2)", "play() | undo()");
        Script.leadsBack(before + "clearText()", "play() | undo()");
    }

    @Says("each change records everything before it but the text")
    static void promise21BringsAGoneSheetBack() {
        run("""
            glyph(600) | stem(0, 0, 100) | make(10) | make(11) | make(12) | make(13) | cut(0, 0)
            make(14) = 4 | inSheet(10, 0, 0) = NOT_FOUND | count(6) = 5 | undo() = 3
            inSheet(10, 0, 0) = 1 | inSheet(14, 0, 0) = NOT_FOUND | count(6) = 4 | count(4) = 4
            undo() = 2 | count(4) = 0 | make(10) | inSheet(10, 0, 0) = 1 | sheetOf(0, 0) = 11
            undo() = 2 | sheetOf(0, 0) = 10
            """);
    }

    @Says("A call that returns an error changes nothing.")
    static void promise21HasNoStateOfARefusedChange() {
        run("""
            glyph(600) | stem(0, 100, 50) | standard(60) | count(7) = 3
            glyph(99) = INVALID_ARGUMENT | stem(0, 100, 50) = NOT_POSSIBLE | cut(0, 1) = INVALID_ARGUMENT
            hint(0, 0, 4) = INVALID_ARGUMENT | standard(60) = NOT_POSSIBLE | drop(61) = NOT_POSSIBLE
            make(5) = INVALID_ARGUMENT | set(0, 101) = INVALID_ARGUMENT | type(31) = INVALID_ARGUMENT
            type('x') = 1 | play() = NOT_POSSIBLE | count(7) = 3 | undo() = 2 | count(2) = 0
            undo() = 1 | count(1) = 0 | undo() = 0 | count(0) = 0
            """);
    }
}
