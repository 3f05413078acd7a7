import java.util.ArrayList;
import java.util.List;
import java.util.regex.Matcher;
import java.util.regex.Pattern;

/**
 * Calls on a new object, told as rows: "glyph(600) = 0" is a call and the answer that is due,
 * "8 x glyph(600)" a call done eight times, write "g600;" empties the text and types another one.
 * Several calls in one row stand apart by " | ". Each call that answers an error is held to leave
 * all as it was, and so are, at the end, all that only look.
 */
final class Script {
    // A longer run leaves too few of the 512 calls to look with.
    private static final int SEEN_UP_TO = 400;
    private static final Pattern CALL =
            Pattern.compile("(?:(\\d+) x )?(\\w+)\\(([^)]*)\\)(?: = (.+))?");

    private final HintedStems x = new HintedStems();
    private final List<Call> all = new ArrayList<>();
    // Those that can have changed something: neither looks nor refused ones.
    private final List<Call> lasting = new ArrayList<>();
    private int[] seen;

    private Script() {
    }

    static void run(String rows) {
        Script script = new Script();
        script.rows(rows);
        script.end();
    }

    /** Holds that some more rows lead back to what there was before them. */
    static void leadsBack(String rows, String more) {
        Script script = new Script();
        script.rows(rows);
        int[] was = Sight.of(script.lasting);
        script.rows(more);
        String difference = Sight.difference(was, Sight.of(script.lasting));
        Checks.due("after " + more + ": " + difference, difference.isEmpty() ? 1 : 0, 1);
    }

    private void rows(String rows) {
        for (String row : rows.split("\n")) {
            row(row.trim());
        }
    }

    private void row(String row) {
        if (row.startsWith("write \"")) {
            write(row.substring(row.indexOf('"') + 1, row.lastIndexOf('"')));
        } else if (!row.isEmpty()) {
            for (String call : row.split(" \\| ")) {
                told(call.trim());
            }
        }
    }

    private void write(String text) {
        call(new Call("clearText"));
        for (int k = 0; k < text.length(); k++) {
            int length = call(new Call("type", text.charAt(k)));
            Checks.due("type of \"" + text + "\"", length, k + 1);
        }
    }

    private void told(String text) {
        Matcher m = CALL.matcher(text);
        if (!m.matches()) {
            throw new IllegalArgumentException("no call: " + text);
        }
        String[] told = m.group(3).isEmpty() ? new String[0] : m.group(3).split(", ");
        int[] args = new int[told.length];
        for (int k = 0; k < told.length; k++) {
            args[k] = number(told[k]);
        }
        Call call = new Call(m.group(2), args);
        int times = m.group(1) == null ? 1 : Integer.parseInt(m.group(1));
        for (int k = 0; k < times; k++) {
            int answer = call(call);
            if (m.group(4) != null) {
                Checks.due(call + ", the call " + all.size(), answer, number(m.group(4)));
            } else if (isError(answer)) {
                Checks.due(call + ", the call " + all.size() + ", is no error", answer, 0);
            }
        }
    }

    private int call(Call call) {
        if (all.size() >= Sight.CALLS) {
            throw new IllegalArgumentException("nothing is promised about more than 512 calls");
        }
        int answer = call.on(x);
        all.add(call);
        if (!call.alters()) {
            return answer;
        }
        if (isError(answer)) {
            refused(call);
        } else {
            lasting.add(call);
            seen = null;
        }
        return answer;
    }

    private void refused(Call call) {
        if (lasting.size() > SEEN_UP_TO) {
            return;
        }
        List<Call> with = new ArrayList<>(lasting);
        with.add(call);
        same(call + ", which is refused", Sight.of(with));
    }

    private void end() {
        if (all.size() <= SEEN_UP_TO) {
            same("all looks and refused calls", Sight.of(all));
        }
    }

    private void same(String after, int[] is) {
        if (seen == null) {
            seen = Sight.of(lasting);
        }
        String difference = Sight.difference(seen, is);
        Checks.due("after " + after + ": " + difference, difference.isEmpty() ? 1 : 0, 1);
    }

    private static boolean isError(int answer) {
        return answer <= -1000001 && answer >= -1000004;
    }

    private static int number(String told) {
        switch (told) {
            case "INVALID_ARGUMENT": return -1000001;
            case "NOT_POSSIBLE": return -1000002;
            case "LIMIT_REACHED": return -1000003;
            case "NOT_FOUND": return -1000004;
            case "MIN": return Integer.MIN_VALUE;
            case "MAX": return Integer.MAX_VALUE;
            default: break;
        }
        if (told.startsWith("float ")) {
            String[] parts = told.substring(6).split("/");
            return Float.floatToIntBits(Float.parseFloat(parts[0]) / Float.parseFloat(parts[1]));
        }
        return told.startsWith("'") ? told.charAt(1) : Integer.parseInt(told);
    }
}
