import java.util.Arrays;
import java.util.stream.Collectors;

/** A call of the face with its arguments. */
record Call(String name, int... args) {
    int on(HintedStems x) {
        switch (args.length) {
            case 0:
                return withNone(x);
            case 1:
                return withOne(x, args[0]);
            case 2:
                return withTwo(x, args[0], args[1]);
            case 3:
                return withThree(x, args[0], args[1], args[2]);
            default:
                if (args.length == 4 && name.equals("pixels")) {
                    return x.pixels(args[0], args[1], args[2], args[3]);
                }
                throw unknown();
        }
    }

    private int withNone(HintedStems x) {
        switch (name) {
            case "mean": return x.mean();
            case "undo": return x.undo();
            case "clearText": return x.clearText();
            case "play": return x.play();
            default: throw unknown();
        }
    }

    private int withOne(HintedStems x, int a) {
        switch (name) {
            case "glyph": return x.glyph(a);
            case "standard": return x.standard(a);
            case "drop": return x.drop(a);
            case "make": return x.make(a);
            case "even": return x.even(a);
            case "clear": return x.clear(a);
            case "count": return x.count(a);
            case "type": return x.type(a);
            case "fault": return x.fault(a);
            default: throw unknown();
        }
    }

    private int withTwo(HintedStems x, int a, int b) {
        switch (name) {
            case "cut": return x.cut(a, b);
            case "set": return x.set(a, b);
            case "sheetOf": return x.sheetOf(a, b);
            default: throw unknown();
        }
    }

    private int withThree(HintedStems x, int a, int b, int c) {
        switch (name) {
            case "stem": return x.stem(a, b, c);
            case "hint": return x.hint(a, b, c);
            case "stemOf": return x.stemOf(a, b, c);
            case "glyphOf": return x.glyphOf(a, b, c);
            case "lit": return x.lit(a, b, c);
            case "inSheet": return x.inSheet(a, b, c);
            case "best": return x.best(a, b, c);
            default: throw unknown();
        }
    }

    private IllegalArgumentException unknown() {
        return new IllegalArgumentException("no such call: " + this);
    }

    /** Whether it can leave the object other than it was. */
    boolean alters() {
        switch (name) {
            case "glyph", "stem", "cut", "hint", "standard", "drop", "make", "set", "undo", "type",
                    "clearText", "play":
                return true;
            default:
                return false;
        }
    }

    @Override
    public String toString() {
        return Arrays.stream(args).mapToObj(Integer::toString)
                .collect(Collectors.joining(", ", name + "(", ")"));
    }
}
