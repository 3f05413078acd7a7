/**
 * Refused calls, and those that only look, on an object in which all is full and nothing is as it was at
 * first: Script holds each of them to leave all as it was.
 */
final class EdgesOfRefusals {
    private EdgesOfRefusals() {
    }

    // 8 glyphs, one of them with 6 stems, 3 standard widths, 4 sheets, 4 states, 60 characters.
    private static String full(String text) {
        return "write \"" + text + "\"\n" + """
            8 x glyph(700)
            stem(0, 10, 40) | stem(0, 110, 60) | stem(0, 210, 50) | stem(0, 310, 45) | stem(0, 420, 55)
            stem(0, 530, 70) | stem(1, 0, 90) | stem(1, 200, 95) | stem(7, 50, 300) | stem(7, 351, 100)
            hint(0, 0, 1) | hint(0, 2, 3) | hint(0, 3, 2) | hint(0, 5, 3) | hint(1, 1, 1) | hint(7, 1, 3)
            standard(50) | standard(100) | standard(290) | make(10) | make(20) | make(30) | make(40)
            cut(1, 0) | set(1, 2) | make(20) | set(0, 33) | hint(7, 0, 2)
            count(0) = 8 | count(1) = 9 | count(2) = 3 | count(3) = 4 | count(6) = 5 | count(7) = 4 | count(8) = 60
            """;
    }

    private static void run(String rows) {
        Script.run(full("m6;".repeat(20)) + rows);
    }

    @Says("A call that returns an error changes nothing.")
    static void promise2LeavesAllAsItWas() {
        run("glyph(99) = INVALID_ARGUMENT | glyph(1501) = INVALID_ARGUMENT | glyph(700) = LIMIT_REACHED");
    }

    @Says("A call that returns an error changes nothing.")
    static void promise3LeavesAllAsItWas() {
        run("""
            stem(8, 0, 1) = INVALID_ARGUMENT | stem(1, 1000, 1) = INVALID_ARGUMENT
            stem(1, 0, 301) = INVALID_ARGUMENT | stem(1, 199, 2) = NOT_POSSIBLE
            stem(0, 10, 40) = NOT_POSSIBLE | stem(0, 0, 1) = LIMIT_REACHED
            """);
    }

    @Says("A call that returns an error changes nothing.")
    static void promise4LeavesAllAsItWas() {
        run("cut(0, 6) = INVALID_ARGUMENT | cut(1, 1) = INVALID_ARGUMENT | cut(8, 0) = INVALID_ARGUMENT");
    }

    @Says("A call that returns an error changes nothing.")
    static void promise5LeavesAllAsItWas() {
        run("hint(0, 0, 4) = INVALID_ARGUMENT | hint(0, 6, 1) = INVALID_ARGUMENT | hint(8, 0, 1) = INVALID_ARGUMENT");
    }

    @Says("A call that returns an error changes nothing.")
    static void promise6LeavesAllAsItWas() {
        run("standard(0) = INVALID_ARGUMENT | standard(100) = NOT_POSSIBLE | standard(60) = LIMIT_REACHED");
    }

    @Says("A call that returns an error changes nothing.")
    static void promise7LeavesAllAsItWas() {
        run("drop(0) = INVALID_ARGUMENT | drop(301) = INVALID_ARGUMENT | drop(60) = NOT_POSSIBLE");
    }

    @Says("A call that returns an error changes nothing.")
    static void promise8LeavesAllAsItWas() {
        run("make(5) = INVALID_ARGUMENT | make(49) = INVALID_ARGUMENT");
    }

    @Says("A call that returns an error changes nothing.")
    static void promise9LeavesAllAsItWas() {
        run("set(0, 101) = INVALID_ARGUMENT | set(1, 4) = INVALID_ARGUMENT | set(2, 1) = INVALID_ARGUMENT");
    }

    @Says("A call that returns an error changes nothing.")
    static void promise10LeavesAllAsItWas() {
        run("""
            stemOf(0, 0, 4) = 50 | stemOf(0, 0, 5) = 6 | stemOf(0, 0, 6) = NOT_FOUND
            stemOf(0, 0, 7) = INVALID_ARGUMENT
            """);
    }

    @Says("A call that returns an error changes nothing.")
    static void promise11LeavesAllAsItWas() {
        run("""
            pixels(0, 5, 48, 1) = 2 | pixels(0, 0, 49, 0) = INVALID_ARGUMENT
            pixels(1, 1, 48, 0) = INVALID_ARGUMENT
            """);
    }

    @Says("A call that returns an error changes nothing.")
    static void promise12LeavesAllAsItWas() {
        run("glyphOf(0, 48, 0) = 34 | glyphOf(0, 48, 6) = INVALID_ARGUMENT | glyphOf(8, 48, 0) = INVALID_ARGUMENT");
    }

    @Says("A call that returns an error changes nothing.")
    static void promise13LeavesAllAsItWas() {
        run("lit(0, 48, 33) = 0 | lit(0, 48, 34) = NOT_FOUND | lit(0, 48, 64) = INVALID_ARGUMENT");
    }

    @Says("A call that returns an error changes nothing.")
    static void promise14LeavesAllAsItWas() {
        run("inSheet(10, 1, 0) = 1 | inSheet(20, 1, 0) = 0 | inSheet(11, 0, 0) = NOT_FOUND\n"
                + "inSheet(10, 8, 0) = INVALID_ARGUMENT | inSheet(10, 0, 64) = INVALID_ARGUMENT");
    }

    @Says("A call that returns an error changes nothing.")
    static void promise15LeavesAllAsItWas() {
        run("sheetOf(3, 0) = 20 | sheetOf(0, 2) = 1 | sheetOf(4, 0) = NOT_FOUND | sheetOf(-1, 0) = INVALID_ARGUMENT");
    }

    @Says("A call that returns an error changes nothing.")
    static void promise16LeavesAllAsItWas() {
        run("even(6) = 1 | even(48) = 0 | even(5) = INVALID_ARGUMENT");
    }

    @Says("A call that returns an error changes nothing.")
    static void promise17LeavesAllAsItWas() {
        run("clear(2) = 6 | clear(1) = 6 | clear(8) = INVALID_ARGUMENT");
    }

    @Says("A call that returns an error changes nothing.")
    static void promise18LeavesAllAsItWas() {
        run("best(1, 0, 0) = 0 | best(1, 0, 1) = 43 | stemOf(1, 0, 2) = 1 | best(1, 1, 0) = INVALID_ARGUMENT");
    }

    @Says("A call that returns an error changes nothing.")
    static void promise19LeavesAllAsItWas() {
        run("mean() = float 815/9");
    }

    @Says("A call that returns an error changes nothing.")
    static void promise20LeavesAllAsItWas() {
        run("count(4) = 3 | count(12) = 290 | count(20) = 33 | count(21) = 2 | count(9) = INVALID_ARGUMENT");
        Script.run("standard(7) | set(0, 3) | set(1, 0) | count(11) = NOT_FOUND");
    }

    @Says("A call that returns an error changes nothing.")
    static void promise21LeavesAllAsItWas() {
        run("undo() = 3 | undo() = 2 | undo() = 1 | undo() = 0 | undo() = NOT_POSSIBLE | count(1) = 9 | count(21) = 1");
    }

    @Says("A call that returns an error changes nothing.")
    static void promise22LeavesAllAsItWas() {
        run("type(31) = INVALID_ARGUMENT | type(127) = INVALID_ARGUMENT | type('x') = LIMIT_REACHED");
    }

    @Says("Empties the text.")
    static void promise23ChangesNothingButTheText() {
        String text = "m6;".repeat(20);
        Script.leadsBack(full(text), "clearText() = 60 | clearText() = 0\nwrite \"" + text + "\"");
        Script.leadsBack(full(text), "write \"x\"\nfault(0) = 0\nwrite \"" + text + "\"");
    }

    @Says("A call that returns an error changes nothing.")
    static void promise24LeavesAllAsItWas() {
        run("fault(0) = NOT_FOUND | fault(3) = INVALID_ARGUMENT");
        Script.run(full("w50;" + "m6;".repeat(18) + "m6") + "fault(0) = 0 | fault(1) = 2 | fault(2) = NOT_POSSIBLE");
    }

    @Says("A call that returns an error changes nothing.")
    static void promise25LeavesAllAsItWas() {
        Script.run(full("m6;".repeat(19) + "m5;") + "play() = NOT_POSSIBLE | fault(0) = 57");
        Script.run(full("h0,0,0;h7,1,0;" + "m6;".repeat(14) + "g700") + "play() = NOT_POSSIBLE | fault(0) = 56");
        Script.run(full("h0,0,0;h7,1,0;" + "m6;".repeat(13) + "m48;g99") + "play() = NOT_POSSIBLE | fault(0) = 57");
    }
}
