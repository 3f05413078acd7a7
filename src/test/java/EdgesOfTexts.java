/** The edges of texts: promises 22 to 25. */
final class EdgesOfTexts {
    // 20 orders in the 60 characters that a text can have.
    private static final String FULL = "m6;".repeat(20);

    private EdgesOfTexts() {
    }

    private static void run(String rows) {
        Script.run(rows);
    }

    // A text whose fault is due, with its position, its reason and its cause.
    private static void faulty(String before, String text, int position, int reason, String cause) {
        run(before + "\nwrite \"" + text + "\"\nfault(0) = " + position + " | fault(1) = " + reason
                + " | fault(2) = " + cause + " | play() = NOT_POSSIBLE");
    }

    private static void possible(String before, String text, int orders) {
        run(before + "\nwrite \"" + text + "\"\nfault(0) = NOT_FOUND | fault(1) = NOT_FOUND | fault(2) = NOT_FOUND"
                + " | play() = " + orders + " | count(8) = " + text.length());
    }

    // ---- promise 22: type

    @Says({"`character`: 32 to 126", "Appends a character to the text.", "Returns the length of the text"})
    static void promise22TakesCharactersOf32To126() {
        run("type(32) = 1 | type(126) = 2 | type(33) = 3 | type(125) = 4 | count(8) = 4 | count(7) = 0");
    }

    @Says("INVALID_ARGUMENT if character is out of range")
    static void promise22RefusesCharactersBeside() {
        run("""
            type(31) = INVALID_ARGUMENT | type(127) = INVALID_ARGUMENT | type(0) = INVALID_ARGUMENT
            type(-1) = INVALID_ARGUMENT | type(MIN) = INVALID_ARGUMENT | type(MAX) = INVALID_ARGUMENT
            type(359) = INVALID_ARGUMENT | type(65639) = INVALID_ARGUMENT | type(10) = INVALID_ARGUMENT
            count(8) = 0 | type('g') = 1 | type(31) = INVALID_ARGUMENT | type(127) = INVALID_ARGUMENT | count(8) = 1
            """);
    }

    @Says({"LIMIT_REACHED if it has 60 characters", "There is a text of at most 60 characters"})
    static void promise22RefusesA61st() {
        run("""
            59 x type(' ') | type(' ') = 60 | type(' ') = LIMIT_REACHED | type('g') = LIMIT_REACHED | count(8) = 60
            clearText() = 60 | type('g') = 1
            """);
        run("write \"" + FULL + "\"\ntype('x') = LIMIT_REACHED | fault(0) = NOT_FOUND | play() = 20");
    }

    @Says("INVALID_ARGUMENT is returned rather than NOT_POSSIBLE")
    static void promise22TellsTheRangeAheadOfTheLimit() {
        run("60 x type(' ') | type(31) = INVALID_ARGUMENT | type(127) = INVALID_ARGUMENT | type(126) = LIMIT_REACHED");
    }

    // ---- promise 23: clearText

    @Says({"Returns the length it had", "Empties the text."})
    static void promise23EmptiesTextsOf0And1And60() {
        run("""
            clearText() = 0 | clearText() = 0 | type('x') = 1 | clearText() = 1 | count(8) = 0 | clearText() = 0
            60 x type(';') | clearText() = 60 | count(8) = 0 | fault(0) = NOT_FOUND | type('g') = 1
            fault(0) = 0 | fault(2) = 1 | count(7) = 0
            """);
    }

    @Says("Empties the text.")
    static void promise23LeavesNothingOfTheOldText() {
        faulty("write \"m6;\"", "m6", 0, 1, "2");
        faulty("write \"" + FULL + "\"", "m0006", 0, 1, "5");
        possible("write \"" + FULL + "\"", "m6;", 1);
    }

    // ---- promise 24: fault

    @Says({"`what`: 0: its position; 1: its reason; 2: its cause", "INVALID_ARGUMENT if what is out of range",
        "Returns that", "Tells about the fault of the text."})
    static void promise24TellsOf0To2() {
        run("""
            write "m6;m5"
            fault(0) = 3 | fault(1) = 1 | fault(2) = 2 | fault(-1) = INVALID_ARGUMENT | fault(3) = INVALID_ARGUMENT
            fault(MIN) = INVALID_ARGUMENT | fault(MAX) = INVALID_ARGUMENT
            """);
    }

    @Says("NOT_FOUND if the text has no fault (also if it is empty)")
    static void promise24FindsNoFaultOfAnEmptyTextAndOfAPossibleOne() {
        run("fault(0) = NOT_FOUND | fault(1) = NOT_FOUND | fault(2) = NOT_FOUND | fault(3) = INVALID_ARGUMENT");
        possible("", "m6;", 1);
        possible("", FULL, 20);
        possible("", "g0100;s0,0000,0001;h00,00,03;w1;m0048;", 5);
        possible("", "g1500;s0000,999,300;h0,0,0;w300;m6;", 5);
    }

    @Says("LIMIT_REACHED rather than NOT_FOUND")
    static void promise24TellsTheRangeAheadOfWhatIsNotFound() {
        run("fault(-1) = INVALID_ARGUMENT | fault(3) = INVALID_ARGUMENT | fault(2) = NOT_FOUND");
    }

    @Says("numbers of 1 to 4 digits, 0 ahead allowed")
    static void promise24TakesNumbersOf1To4Digits() {
        possible("", "m6;", 1);
        possible("", "m06;", 1);
        possible("", "m0006;", 1);
        faulty("", "m00006;", 0, 1, "5");
        faulty("", "m;", 0, 1, "1");
        faulty("", "g10000;", 0, 1, "5");
        faulty("", "g9999;", 0, 2, "INVALID_ARGUMENT");
        faulty("glyph(600)", "s00000,1,1;", 0, 1, "5");
        faulty("glyph(600)", "s0,00001,1;", 0, 1, "7");
        faulty("glyph(600)", "s0,1,00001;", 0, 1, "9");
        faulty("glyph(600)", "s,1,1;", 0, 1, "1");
        faulty("glyph(600)", "s0,,1;", 0, 1, "3");
        faulty("glyph(600)", "s0,1,;", 0, 1, "5");
        possible("glyph(600)", "s0000,0001,0001;", 1);
    }

    @Says({"its cause is with the reason 1 at which character of the order, from 0, it breaks off",
        "its reason is 1 if it is not of this form, its \";\" included"})
    static void promise24BreaksOffAtEachCharacter() {
        faulty("glyph(600)", "x0,1,1;", 0, 1, "0");
        faulty("glyph(600)", "sx,1,1;", 0, 1, "1");
        faulty("glyph(600)", "s0x1,1;", 0, 1, "2");
        faulty("glyph(600)", "s0,x,1;", 0, 1, "3");
        faulty("glyph(600)", "s0,1x1;", 0, 1, "4");
        faulty("glyph(600)", "s0,1,x;", 0, 1, "5");
        faulty("glyph(600)", "s0,1,1x", 0, 1, "6");
        faulty("glyph(600)", "s0,1,1,", 0, 1, "6");
        faulty("glyph(600)", "s0;", 0, 1, "2");
        faulty("glyph(600)", "s0,1;", 0, 1, "4");
        faulty("", ";", 0, 1, "0");
        faulty("", " m6;", 0, 1, "0");
        faulty("", "M6;", 0, 1, "0");
        faulty("", "m6,", 0, 1, "2");
        faulty("", "m6 ;", 0, 1, "2");
        faulty("", "m-6;", 0, 1, "1");
        faulty("", "m/;", 0, 1, "1");
        faulty("", "m:;", 0, 1, "1");
        faulty("", "m6;;", 3, 1, "0");
        faulty("", "m6; m6;", 3, 1, "0");
        faulty("", "d10;", 0, 1, "0");
        faulty("", "c0,0;", 0, 1, "0");
    }

    @Says("(of one that the text ends too early it is its length)")
    static void promise24TellsTheLengthOfOneThatEndsTooEarly() {
        String[] starts = {"s", "s0", "s0,", "s0,1", "s0,1,", "s0,1,1", "s0,1,1000", "g", "g600", "w", "w1", "m",
            "m0006", "h", "h0,0,0"};
        for (String start : starts) {
            faulty("glyph(600)", start, 0, 1, "" + start.length());
            faulty("glyph(600)", "m6;" + start, 3, 1, "" + start.length());
        }
    }

    @Says("The fault of the text is the position, from 0, of the first character of the first order that is not "
            + "possible")
    static void promise24TellsPositionsOf0To59() {
        faulty("", "m5;", 0, 2, "INVALID_ARGUMENT");
        faulty("", "m6;m5;m6;x", 3, 2, "INVALID_ARGUMENT");
        faulty("", "x;m5;", 0, 1, "0");
        String upTo59 = "m6;".repeat(18) + "m006;";
        faulty("", upTo59 + "m", 59, 1, "1");
        faulty("", upTo59 + ";", 59, 1, "0");
        faulty("", "m6;".repeat(19) + "m5;", 57, 2, "INVALID_ARGUMENT");
        faulty("", "m6;".repeat(19) + "m48", 57, 1, "3");
    }

    @Says("and with the reason 2 the error code that the call returns for it")
    static void promise24TellsTheErrorOfEachOrder() {
        faulty("", "g99;", 0, 2, "INVALID_ARGUMENT");
        faulty("", "g1501;", 0, 2, "INVALID_ARGUMENT");
        faulty("8 x glyph(600)", "g600;", 0, 2, "LIMIT_REACHED");
        faulty("8 x glyph(600)", "g99;", 0, 2, "INVALID_ARGUMENT");
        faulty("glyph(600)", "s1,0,1;", 0, 2, "INVALID_ARGUMENT");
        faulty("glyph(600)", "s0,1000,1;", 0, 2, "INVALID_ARGUMENT");
        faulty("glyph(600)", "s0,0,0;", 0, 2, "INVALID_ARGUMENT");
        faulty("glyph(600)", "s0,0,301;", 0, 2, "INVALID_ARGUMENT");
        faulty("glyph(600) | stem(0, 0, 10)", "s0,9,1;", 0, 2, "NOT_POSSIBLE");
        faulty("glyph(600) | stem(0, 0, 1) | stem(0, 1, 1) | stem(0, 2, 1) | stem(0, 3, 1) | stem(0, 4, 1) "
                + "| stem(0, 5, 1)", "s0,6,1;", 0, 2, "LIMIT_REACHED");
        faulty("glyph(600)", "h0,0,0;", 0, 2, "INVALID_ARGUMENT");
        faulty("glyph(600) | stem(0, 0, 1)", "h0,0,4;", 0, 2, "INVALID_ARGUMENT");
        faulty("glyph(600) | stem(0, 0, 1)", "h0,1,0;", 0, 2, "INVALID_ARGUMENT");
        faulty("", "w0;", 0, 2, "INVALID_ARGUMENT");
        faulty("", "w301;", 0, 2, "INVALID_ARGUMENT");
        faulty("standard(5)", "w0005;", 0, 2, "NOT_POSSIBLE");
        faulty("standard(5) | standard(6) | standard(7)", "w8;", 0, 2, "LIMIT_REACHED");
        faulty("standard(5) | standard(6) | standard(7)", "w7;", 0, 2, "NOT_POSSIBLE");
        faulty("", "m5;", 0, 2, "INVALID_ARGUMENT");
        faulty("", "m49;", 0, 2, "INVALID_ARGUMENT");
    }

    @Says("and otherwise 2, when those ahead of it are done")
    static void promise24DoesThoseAheadOfIt() {
        possible("", "g600;s0,0,10;h0,0,3;w10;m10;", 5);
        faulty("", "g600;s0,0,10;h0,1,3;", 13, 2, "INVALID_ARGUMENT");
        faulty("", "s0,0,10;g600;", 0, 2, "INVALID_ARGUMENT");
        faulty("", "w10;w010;", 4, 2, "NOT_POSSIBLE");
        faulty("", "w1;w2;w3;w4;", 9, 2, "LIMIT_REACHED");
        faulty("", "g600;s0,0,10;s0,9,1;", 13, 2, "NOT_POSSIBLE");
        faulty("7 x glyph(600)", "g600;g600;", 5, 2, "LIMIT_REACHED");
        run("""
            write "g600;s0,0,10;"
            fault(0) = NOT_FOUND | count(0) = 0 | glyph(600) | fault(0) = NOT_FOUND | stem(0, 5, 10) | fault(0) = 5
            7 x glyph(600) | fault(0) = 0 | fault(2) = LIMIT_REACHED | undo() | fault(0) = 5 | fault(2) = NOT_POSSIBLE
            cut(0, 0) | fault(0) = NOT_FOUND
            """);
    }

    @Says({"orders, each followed by \";\": \"g\" an advance (a glyph comes), \"s\" a glyph, \",\", a place, \",\", a "
            + "width (a stem comes), \"h\" a glyph, \",\", a stem, \",\", a hint (set), \"w\" a width (a standard "
            + "width comes) or \"m\" a size (a sheet is made)",
        "NOT_POSSIBLE if it has a fault"})
    static void promise24KnowsNoOtherOrders() {
        for (int c = 33; c <= 126; c++) {
            String letter = String.valueOf((char) c);
            if (!"gshwm".contains(letter) && c != '"') {
                faulty("", letter + "10;", 0, 1, "0");
            }
        }
    }

    // ---- promise 25: play

    @Says({"Returns how many there are in it", "They are one change, also if there are none."})
    static void promise25PlaysNoOrder() {
        run("""
            play() = 0 | count(7) = 1 | play() = 0 | count(7) = 2 | undo() = 1 | undo() = 0 | undo() = NOT_POSSIBLE
            glyph(600) | set(0, 1) | set(0, 2) | set(0, 3) | play() = 0 | count(7) = 4 | undo() = 3 | count(20) = 3
            undo() = 2 | undo() = 1 | undo() = 0 | count(20) = 20 | count(0) = 1
            """);
    }

    @Says({"Does all orders of the text, which stays.", "Returns how many there are in it"})
    static void promise25Plays20OrdersAsOneChange() {
        run("write \"" + FULL + "\"\n" + """
            play() = 20 | count(8) = 60 | count(7) = 1 | count(6) = 20 | count(3) = 1 | play() = 20 | count(6) = 40
            count(7) = 2 | undo() = 1 | count(6) = 20 | undo() = 0 | count(6) = 0 | count(3) = 0 | count(8) = 60
            """);
    }

    @Says("They are one change, also if there are none.")
    static void promise25DropsTheOldestOfFiveStates() {
        run("""
            set(0, 1) | set(0, 2) | set(0, 3) | set(0, 4)
            write "g600;s0,100,80;w84;m10;"
            play() = 4 | count(7) = 4 | count(0) = 1 | stemOf(0, 0, 3) = 84 | inSheet(10, 0, 1) = 1
            undo() = 3 | count(0) = 0 | count(2) = 0 | count(3) = 0 | count(20) = 4
            undo() = 2 | undo() = 1 | undo() = 0 | count(20) = 1 | undo() = NOT_POSSIBLE
            """);
    }

    @Says("NOT_POSSIBLE if it has a fault")
    static void promise25DoesNothingOfATextWithAFault() {
        run("""
            glyph(600) | stem(0, 0, 10) | make(10)
            write "g700;s1,0,10;h0,0,3;w20;m11;m10;m5;"
            play() = NOT_POSSIBLE | count(0) = 1 | count(1) = 1 | count(2) = 0 | count(3) = 1 | count(6) = 1
            stemOf(0, 0, 2) = 0 | count(7) = 3 | count(8) = 35 | sheetOf(0, 2) = 0
            """);
        run("write \"m6;x\"\nplay() = NOT_POSSIBLE | count(3) = 0 | count(7) = 0 | undo() = NOT_POSSIBLE");
    }

    @Says("Does all orders of the text, which stays.")
    static void promise25LosesTheOldestSheetsForMoreThanFour() {
        run("""
            glyph(600) | make(40)
            write "m6;m7;m8;m9;m10;m7;"
            play() = 6 | count(3) = 4 | count(6) = 7 | inSheet(40, 0, 0) = NOT_FOUND | inSheet(6, 0, 0) = NOT_FOUND
            sheetOf(0, 0) = 8 | sheetOf(1, 0) = 9 | sheetOf(2, 0) = 10 | sheetOf(3, 0) = 7
            undo() = 2 | count(3) = 1 | sheetOf(0, 0) = 40 | count(6) = 1
            """);
    }
}
