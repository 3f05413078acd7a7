/** Long runs of calls, made up from fixed seeds, on the class and on the model of the document. */
public final class ModelTests {
    private static final int RUNS = 600;
    private static final int CALLS = 512;

    private long seed;
    private HintedStems x;
    private Model m;
    private int round;

    public static void main(String[] args) {
        for (int run = 1; run <= RUNS && Checks.wrong() == 0; run++) {
            new ModelTests().run(run);
        }
        Checks.end("ModelTests");
    }

    private void run(int number) {
        seed = number * 7919L;
        x = new HintedStems();
        m = new Model();
        Checks.about("made-up run " + number);
        int calls = 0;
        String waiting = "";
        int typed = 0;
        while (calls < CALLS && Checks.wrong() == 0) {
            if (typed < waiting.length()) {
                int c = waiting.charAt(typed++);
                Checks.due("type(" + c + ")", x.type(c), m.type(c));
            } else {
                int pick = roll(100);
                if (pick == 0) {
                    waiting = orders();
                    typed = 0;
                    Checks.due("clearText()", x.clearText(), m.clearText());
                } else if (pick < 45 && calls > 20 || pick < 20) {
                    look();
                } else if (pick < 50) {
                    ofText();
                } else {
                    alter();
                }
            }
            calls++;
        }
    }

    private int roll(int sides) {
        seed = seed * 6364136223846793005L + 1442695040888963407L;
        return (int) ((seed >>> 33) % sides);
    }

    private int pick(int... of) {
        return of[roll(of.length)];
    }

    /** Mostly from the range, sometimes beside it or far away. */
    private int from(int least, int greatest) {
        int way = roll(40);
        if (way == 0) {
            return pick(least - 1, greatest + 1, Integer.MIN_VALUE, Integer.MAX_VALUE, -1);
        }
        if (way < 4) {
            return pick(least, greatest);
        }
        return least + roll(greatest - least + 1);
    }

    private int glyph() {
        int glyphs = m.count(0);
        return roll(30) == 0 ? pick(-1, glyphs, 7, 8, Integer.MAX_VALUE) : roll(Math.max(1, glyphs));
    }

    private int stem() {
        return roll(30) == 0 ? pick(-1, 5, 6, Integer.MAX_VALUE, Integer.MIN_VALUE) : roll(4);
    }

    private int size() {
        return from(6, 48);
    }

    private int width() {
        return roll(3) == 0 ? from(1, 300) : from(30, 110);
    }

    private int place() {
        return roll(4) == 0 ? pick(0, 100, 150, 200, 300, 400, 500, 600, 700, 999) : from(0, 999);
    }

    private void alter() {
        int way = roll(100);
        if (way < 8) {
            int a = from(100, 1500);
            Checks.due("glyph(" + a + ")", x.glyph(a), m.glyph(a));
        } else if (way < 42) {
            grow();
        } else if (way < 50) {
            int g = glyph();
            int s = stem();
            Checks.due("cut(" + g + ", " + s + ")", x.cut(g, s), m.cut(g, s));
        } else if (way < 66) {
            int g = glyph();
            int s = stem();
            int h = from(0, 3);
            Checks.due("hint(" + g + ", " + s + ", " + h + ")", x.hint(g, s, h), m.hint(g, s, h));
        } else if (way < 72) {
            int w = width();
            Checks.due("standard(" + w + ")", x.standard(w), m.standard(w));
        } else if (way < 76) {
            int held = m.count(10 + roll(3));
            int w = held > 0 ? held : width();
            Checks.due("drop(" + w + ")", x.drop(w), m.drop(w));
        } else if (way < 88) {
            int s = roll(2) == 0 ? pick(10, 16, 24, 36, 48) : size();
            Checks.due("make(" + s + ")", x.make(s), m.make(s));
        } else if (way < 94) {
            int w = from(0, 1);
            int v = w == 0 ? from(0, 100) : from(0, 3);
            Checks.due("set(" + w + ", " + v + ")", x.set(w, v), m.set(w, v));
        } else {
            Checks.due("undo()", x.undo(), m.undo());
        }
    }

    private void grow() {
        int g = glyph();
        int p = place();
        int w = width();
        int s = stem();
        if (roll(4) == 0 && m.stemOf(g, s, 0) >= 0) {
            // right behind another one, or one unit into it
            p = m.stemOf(g, s, 0) + m.stemOf(g, s, 1) - roll(2);
        } else if (roll(6) == 0 && m.stemOf(g, s, 0) > 1) {
            // right ahead of another one, or one unit into it
            w = 1 + roll(Math.min(40, m.stemOf(g, s, 0)));
            p = m.stemOf(g, s, 0) - w + roll(2);
        }
        Checks.due("stem(" + g + ", " + p + ", " + w + ")", x.stem(g, p, w), m.stem(g, p, w));
    }

    private void look() {
        int g = glyph();
        int s = stem();
        int z = size();
        switch (roll(14)) {
            case 0, 1, 2 -> {
                int w = from(0, 6);
                Checks.due("stemOf(" + g + ", " + s + ", " + w + ")", x.stemOf(g, s, w),
                        m.stemOf(g, s, w));
            }
            case 3, 4, 5 -> {
                int w = from(0, 3);
                Checks.due("pixels(" + g + ", " + s + ", " + z + ", " + w + ")",
                        x.pixels(g, s, z, w), m.pixels(g, s, z, w));
            }
            case 6, 7 -> {
                int w = from(0, 5);
                Checks.due("glyphOf(" + g + ", " + z + ", " + w + ")", x.glyphOf(g, z, w),
                        m.glyphOf(g, z, w));
            }
            case 8 -> {
                int c = roll(2) == 0 ? from(0, 63) : from(0, 20);
                Checks.due("lit(" + g + ", " + z + ", " + c + ")", x.lit(g, z, c), m.lit(g, z, c));
            }
            case 9 -> {
                int c = roll(2) == 0 ? from(0, 63) : from(0, 20);
                int held = m.sheetOf(roll(4), 0);
                int of = held > 0 && roll(8) > 0 ? held : z;
                Checks.due("inSheet(" + of + ", " + g + ", " + c + ")", x.inSheet(of, g, c),
                        m.inSheet(of, g, c));
            }
            case 10 -> {
                int i = from(0, 3);
                int w = from(0, 3);
                Checks.due("sheetOf(" + i + ", " + w + ")", x.sheetOf(i, w), m.sheetOf(i, w));
            }
            case 11 -> Checks.due("even(" + z + ")", x.even(z), m.even(z));
            case 12 -> {
                int w = pick(0, 1, 2, 3, 4, 4, 5, 5, 6, 7, 8, 9, 10, 11, 12, 13, 19, 20, 21, 22, -1);
                Checks.due("count(" + w + ")", x.count(w), m.count(w));
            }
            default -> {
                round++;
                if (round % 3 == 0) {
                    Checks.due("clear(" + g + ")", x.clear(g), m.clear(g));
                } else if (round % 3 == 1) {
                    int w = from(0, 1);
                    Checks.due("best(" + g + ", " + s + ", " + w + ")", x.best(g, s, w),
                            m.best(g, s, w));
                } else {
                    Checks.due("mean()", x.mean(), m.mean());
                }
            }
        }
    }

    private void ofText() {
        int way = roll(10);
        if (way < 4) {
            int w = from(0, 2);
            Checks.due("fault(" + w + ")", x.fault(w), m.fault(w));
        } else if (way < 6) {
            Checks.due("play()", x.play(), m.play());
        } else {
            int c = way < 9 ? pick(';', ',', 'g', 's', 'h', 'w', 'm', '0', '1', '9') : from(32, 126);
            Checks.due("type(" + c + ")", x.type(c), m.type(c));
        }
    }

    private String number(int n) {
        return roll(12) == 0 ? (n < 10 ? "000" : n < 100 ? "00" : n < 1000 ? "0" : "") + n : "" + n;
    }

    /** A text of some orders, sometimes with a sign that is wrong, lacking or one too many. */
    private String orders() {
        StringBuilder t = new StringBuilder();
        int orders = 1 + roll(9);
        for (int k = 0; k < orders; k++) {
            switch (roll(6)) {
                case 0 -> t.append('g').append(number(100 + roll(1420)));
                case 1, 2 -> t.append('s').append(roll(3)).append(',').append(number(roll(1010)))
                        .append(',').append(number(1 + roll(120)));
                case 3 -> t.append('h').append(roll(2)).append(',').append(roll(2)).append(',')
                        .append(number(roll(4)));
                case 4 -> t.append('w').append(number(roll(305)));
                default -> t.append('m').append(number(4 + roll(46)));
            }
            t.append(';');
        }
        if (roll(3) == 0) {
            int at = roll(t.length());
            switch (roll(3)) {
                case 0 -> t.deleteCharAt(at);
                case 1 -> t.insert(at, (char) pick(' ', ';', ',', '5', 'x', 'G', '~', '/', ':'));
                default -> t.setCharAt(at, (char) pick(' ', ';', ',', '5', 'x', 'm', '!', '/', ':'));
            }
        }
        return t.toString();
    }
}
