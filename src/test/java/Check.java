/** What the tests share: answers and exceptions compared with those that are due. */
final class Check {
    interface Call {
        long answer();
    }

    static final String STATE = "IllegalStateException";
    static final String ARGUMENT = "IllegalArgumentException";
    static final String INDEX = "IndexOutOfBoundsException";

    private static int looked = 0;
    private static int wrong = 0;

    private Check() {
    }

    static long number(boolean answer) {
        return answer ? 1 : 0;
    }

    /** The answer of a call, or the name of the exception that it throws. */
    static String outcome(Call call) {
        try {
            return Long.toString(call.answer());
        } catch (RuntimeException e) {
            return e.getClass().getSimpleName();
        }
    }

    static void same(String what, String got, String want) {
        looked++;
        if (!got.equals(want)) {
            wrong++;
            System.out.println(what + ": answered " + got + ", due is " + want);
        }
    }

    static void due(String what, Call call, long want) {
        same(what, outcome(call), Long.toString(want));
    }

    static void due(String what, boolean got, boolean want) {
        same(what, Boolean.toString(got), Boolean.toString(want));
    }

    static void fails(String what, String exception, Call call) {
        same(what, outcome(call), exception);
    }

    /** A number for appendText out of up to 8 characters. */
    static long packed(String characters) {
        long packed = 0;
        for (char character : characters.toCharArray()) {
            packed = packed << 8 | character;
        }
        return packed;
    }

    static void append(RowTriggers x, String text) {
        for (int from = 0; from < text.length(); from += 8) {
            x.appendText(packed(text.substring(from, Math.min(from + 8, text.length()))));
        }
    }

    /** All that the calls that change nothing tell of an object, without the history. */
    static String pictureOf(RowTriggers x) {
        StringBuilder s = new StringBuilder();
        s.append("rows ").append(x.rowCount());
        for (int row = 0; row < 6; row++) {
            s.append(' ').append(x.hasRow(row));
            for (int column = 0; column < 3 && x.hasRow(row); column++) {
                s.append(',').append(x.valueAt(row, column));
            }
        }
        s.append(" rules ").append(x.ruleCount());
        for (int rule = 0; rule < x.ruleCount(); rule++) {
            s.append(' ').append(x.actionOf(rule)).append(',').append(x.isMuted(rule)).append(',').append(x.actsOf(rule));
            for (int other = 0; other < x.ruleCount(); other++) {
                s.append(x.canSetOff(rule, other) ? '+' : '-');
            }
        }
        s.append(" events ").append(x.eventCount()).append(" log");
        for (int ago = 0; ago < x.logSize(); ago++) {
            s.append(' ').append(x.loggedRule(ago)).append('@').append(x.loggedDepth(ago));
        }
        return s.toString();
    }

    /** The picture of all, the history and the text too: what a call that throws must leave as it is. */
    static String wholePictureOf(RowTriggers x) {
        return pictureOf(x) + " undo " + x.undoCount() + " text " + x.textLength() + "/" + x.textError();
    }

    /** A call that throws, and changes nothing. */
    static void failsAndKeeps(RowTriggers x, String what, String exception, Call call) {
        String before = wholePictureOf(x);
        fails(what, exception, call);
        same(what + " changes nothing", wholePictureOf(x), before);
    }

    /** Ends a test. */
    static void end() {
        System.out.println(looked + " answers looked at, " + wrong + " wrong");
        if (wrong != 0 || looked == 0) {
            System.exit(1);
        }
    }
}
