/** What the tests share: answers and exceptions compared with those that are due. */
final class Check {
    interface Call {
        long answer();
    }

    /** Makes an object, the same each time. */
    interface Maker {
        RowTriggers make();
    }

    interface CallOn {
        long answer(RowTriggers x);
    }

    /** Tells something of an object; it may change the object, as nobody uses it afterwards. */
    interface Probe {
        String tell(RowTriggers x);
    }

    static final String STATE = "IllegalStateException";
    static final String ARGUMENT = "IllegalArgumentException";
    static final String INDEX = "IndexOutOfBoundsException";

    private static int looked = 0;
    private static int wrong = 0;

    private Check() {
    }

    static long number(boolean answer) {
        return answer ? 1 : 0;
    }

    /** The answer of a call, or the name of the exception that it throws. */
    static String outcome(Call call) {
        try {
            return Long.toString(call.answer());
        } catch (RuntimeException e) {
            return e.getClass().getSimpleName();
        }
    }

    static void same(String what, String got, String want) {
        looked++;
        if (!got.equals(want)) {
            wrong++;
            System.out.println(what + ": answered " + got + ", due is " + want);
        }
    }

    static void due(String what, Call call, long want) {
        same(what, outcome(call), Long.toString(want));
    }

    static void due(String what, boolean got, boolean want) {
        same(what, Boolean.toString(got), Boolean.toString(want));
    }

    static void fails(String what, String exception, Call call) {
        same(what, outcome(call), exception);
    }

    /** Numbers outside a range: the nearest ones, the farthest ones, and some that a narrower number would wrap around. */
    static int[] outside(int least, int greatest) {
        return java.util.stream.IntStream.of(least - 1, greatest + 1, Integer.MIN_VALUE, Integer.MAX_VALUE, least + 256,
                least - 256, least + 65536, least - 65536, greatest + 65536).filter(n -> n < least || n > greatest).toArray();
    }

    /** A number for appendText out of up to 8 characters. */
    static long packed(String characters) {
        long packed = 0;
        for (char character : characters.toCharArray()) {
            packed = packed << 8 | character;
        }
        return packed;
    }

    static void append(RowTriggers x, String text) {
        for (int from = 0; from < text.length(); from += 8) {
            x.appendText(packed(text.substring(from, Math.min(from + 8, text.length()))));
        }
    }

    /** All that the calls that change nothing tell of an object, without the history. */
    static String pictureOf(RowTriggers x) {
        StringBuilder s = new StringBuilder();
        s.append("rows ").append(x.rowCount());
        for (int row = 0; row < 6; row++) {
            s.append(' ').append(x.hasRow(row));
            for (int column = 0; column < 3 && x.hasRow(row); column++) {
                s.append(',').append(x.valueAt(row, column));
            }
        }
        s.append(" rules ").append(x.ruleCount());
        for (int rule = 0; rule < x.ruleCount(); rule++) {
            s.append(' ').append(x.actionOf(rule)).append(',').append(x.isMuted(rule)).append(',').append(x.actsOf(rule));
            for (int other = 0; other < x.ruleCount(); other++) {
                s.append(x.canSetOff(rule, other) ? '+' : '-');
            }
        }
        s.append(" events ").append(x.eventCount()).append(" log");
        for (int ago = 0; ago < x.logSize(); ago++) {
            s.append(' ').append(x.loggedRule(ago)).append('@').append(x.loggedDepth(ago));
        }
        return s.toString();
    }

    /** The picture of all, the history and the text too: what a call that throws must leave as it is. */
    static String wholePictureOf(RowTriggers x) {
        return pictureOf(x) + " undo " + x.undoCount() + " text " + x.textLength() + "/" + x.textError();
    }

    /** A call that throws, and changes nothing that the calls that change nothing tell of. */
    static void failsAndKeeps(RowTriggers x, String what, String exception, Call call) {
        String before = wholePictureOf(x);
        fails(what, exception, call);
        same(what + " changes nothing", wholePictureOf(x), before);
    }

    /**
     * A call that throws, and changes nothing at all. Each look is taken at a new object, since a look may change
     * it, and since an object is good for 512 calls alone.
     */
    static void refused(String what, String exception, Maker maker, CallOn call) {
        Probe[] probes = {Check::wholePictureOf, Check::shortPictureOf, Check::pastOf, Check::slotsOf, Check::textOf, Check::doingsOf};
        for (Probe probe : probes) {
            RowTriggers x = maker.make();
            fails(what, exception, () -> call.answer(x));
            same(what + " changes nothing", probe.tell(x), probe.tell(maker.make()));
        }
    }

    /** Looks that together tell all of a state. */
    static Probe[] stateProbes() {
        return new Probe[] {Check::pictureOf, Check::shortPictureOf, Check::doingsOf};
    }

    /** The rows, how many rules, events and acts there are, and the greatest depth: few calls tell them. */
    private static String shortPictureOf(RowTriggers x) {
        StringBuilder s = new StringBuilder();
        for (int row = 0; row < 6; row++) {
            s.append(x.hasRow(row) ? x.valueAt(row, 0) + "," + x.valueAt(row, 1) + "," + x.valueAt(row, 2) : "-").append(' ');
        }
        return s.append(x.ruleCount()).append(' ').append(x.eventCount()).append(' ').append(x.logSize()).append(' ')
                .append(x.setDepth(0)).append('\n').toString();
    }

    /** The recorded states, from the latest one on. */
    private static String pastOf(RowTriggers x) {
        StringBuilder s = new StringBuilder();
        while (x.undoCount() > 0) {
            s.append(x.undo()).append(": ").append(shortPictureOf(x));
            x.undo();
        }
        return s.toString();
    }

    private static String slotsOf(RowTriggers x) {
        StringBuilder s = new StringBuilder();
        for (int slot = 0; slot < 2; slot++) {
            int number = slot;
            s.append(outcome(() -> x.loadState(number))).append(": ").append(shortPictureOf(x));
        }
        return s.toString();
    }

    private static String textOf(RowTriggers x) {
        return outcome(x::runText) + ": " + shortPictureOf(x);
    }

    /** What statements come to: this tells of the rules what no call tells. */
    private static String doingsOf(RowTriggers x) {
        StringBuilder s = new StringBuilder();
        s.append(x.setDepth(5));
        for (int row = 0; row < 6; row++) {
            int number = row;
            s.append(' ').append(outcome(() -> x.insert(number, 500, 400, 300)));
            for (int column = 0; column < 3; column++) {
                int place = column;
                s.append(' ').append(outcome(() -> x.update(number, place, 7)));
                s.append(' ').append(outcome(() -> x.update(number, place, 993)));
            }
            s.append(' ').append(outcome(() -> x.remove(number)));
        }
        return s.append(' ').append(pictureOf(x)).toString();
    }

    /** Ends a test. */
    static void end() {
        System.out.println(looked + " answers looked at, " + wrong + " wrong");
        if (wrong != 0 || looked == 0) {
            System.exit(1);
        }
    }
}
