import java.util.regex.Pattern;

/** Promises 29 to 33, and the terms on the text: each sentence that names a boundary case, with a test of its own. */
public final class TextEdgesTest {
    public static void main(String[] args) {
        codesAtTheEnds();
        codesOutOfRange();
        noCharacter();
        bitsAboveTheEnd();
        upToEightCharacters();
        atMostEightyCharacters();
        firstOfTheThrowsClause();
        clearOfAnyLength();
        emptyIsIncomplete();
        incompleteTexts();
        correctTexts();
        eachCharacterThatCannotFollow();
        withoutLeadingZeros();
        oneDigit();
        firstErrorOfMany();
        runOfAText();
        runOfAnError();
        runUpToTheFirstThatFails();
        commandsThatFail();
        commandsThatDoNotFail();
        manyCommands();
        oneChange();
        Check.end();
    }

    private static RowTriggers withText(String text) {
        RowTriggers x = new RowTriggers();
        Check.append(x, text);
        return x;
    }

    /** "r0;r0;r0;.." of any length. */
    private static String signs(int length) {
        StringBuilder s = new StringBuilder();
        for (int i = 0; i < length; i++) {
            s.append("r0;".charAt(i % 3));
        }
        return s.toString();
    }

    /** "the codes of the characters, each 33 to 126" */
    private static void codesAtTheEnds() {
        for (int place = 0; place < 8; place++) {
            for (long code : new long[] {33, 34, 125, 126}) {
                int shift = 8 * place;
                long characters = 0x6161616161616161L & ~(255L << shift) | code << shift;
                Check.due("29: code " + code + " at " + place, () -> withText("r0").appendText(characters), 10);
            }
        }
        for (long code = 33; code <= 126; code++) {
            long alone = code;
            Check.due("29: code " + code, () -> new RowTriggers().appendText(alone), 1);
        }
    }

    /** "Throws IllegalArgumentException if ... a code is out of range" */
    private static void codesOutOfRange() {
        for (int place = 0; place < 8; place++) {
            for (long code : new long[] {1, 9, 10, 31, 32, 127, 128, 129, 161, 200, 255}) {
                int shift = 8 * place;
                long characters = 0x6161616161616161L & ~(255L << shift) | code << shift;
                Check.refused("29: code " + code + " at " + place, Check.ARGUMENT, () -> withText("r0"),
                        x -> x.appendText(characters));
            }
        }
        for (long code = 1; code < 256; code++) {
            if (code < 33 || code > 126) {
                long alone = code;
                Check.refused("29: code " + code, Check.ARGUMENT, () -> withText("r"), x -> x.appendText(alone));
            }
        }
        for (long characters : new long[] {-1, Long.MIN_VALUE, Long.MAX_VALUE, 0xe161616161616161L}) {
            Check.refused("29: " + Long.toHexString(characters), Check.ARGUMENT, () -> withText("r"),
                    x -> x.appendText(characters));
        }
    }

    /** "if there is no character" */
    private static void noCharacter() {
        Check.refused("29: none", Check.ARGUMENT, RowTriggers::new, x -> x.appendText(0));
        Check.refused("29: none, to a text", Check.ARGUMENT, () -> withText("u0"), x -> x.appendText(0));
        Check.refused("29: none, to a full text", Check.ARGUMENT, () -> withText(signs(80)), x -> x.appendText(0));
    }

    /** "the first group of 8 bits that is 0 ends the characters, and all higher bits must be 0" */
    private static void bitsAboveTheEnd() {
        for (int end = 0; end < 8; end++) {
            long below = end == 0 ? 0 : 0x6161616161616161L >>> 64 - 8 * end;
            for (int bit = 8 * end + 8; bit < 64; bit++) {
                long characters = below | 1L << bit;
                Check.refused("29: bit " + bit + " above " + end + " characters", Check.ARGUMENT, () -> withText("r"),
                        x -> x.appendText(characters));
            }
            for (int group = end + 1; group < 8; group++) {
                long characters = below | 0x61L << 8 * group;
                Check.refused("29: a character at " + group + " above " + end + " characters", Check.ARGUMENT,
                        () -> withText("r"), x -> x.appendText(characters));
            }
        }
    }

    /** "Appends up to 8 characters to the text."; "The lowest 8 bits of the number are the last character" */
    private static void upToEightCharacters() {
        String text = "i0=1,2,3;i5=45,678,90;u0.2=0;r5;i3=999,0,10";
        for (int size = 1; size <= 8; size++) {
            RowTriggers x = new RowTriggers();
            for (int from = 0; from < text.length(); from += size) {
                String part = text.substring(from, Math.min(from + size, text.length()));
                int due = from + part.length();
                Check.due("29: " + part, () -> x.appendText(Check.packed(part)), due);
                Check.due("31: with " + part, x::textLength, due);
            }
            Check.due("33: in pieces of " + size, x::runText, 5);
            Check.same("33: what it says", Check.pictureOf(x).replaceAll(" rules.*", ""),
                    "rows 2 true,1,2,0 false false true,999,0,10 false false");
        }
    }

    /** "Throws IllegalStateException if the text would be longer than 80 characters" */
    private static void atMostEightyCharacters() {
        for (int length = 72; length <= 80; length++) {
            for (int more = 1; more <= 8; more++) {
                String text = signs(length);
                String added = signs(more);
                int due = length + more;
                if (due <= 80) {
                    RowTriggers x = withText(text);
                    Check.due("29: " + length + " and " + more, () -> x.appendText(Check.packed(added)), due);
                    Check.due("31: " + length + " and " + more, x::textLength, due);
                } else {
                    Check.refused("29: " + length + " and " + more, Check.STATE, () -> withText(text),
                            x -> x.appendText(Check.packed(added)));
                }
            }
        }
    }

    /** "if several exceptions apply, the first one of the throws clause is thrown" */
    private static void firstOfTheThrowsClause() {
        for (long characters : new long[] {0, 32, 127, 255, 0x6100000061L, -1, 0x6161616161616120L}) {
            Check.refused("29: a full text, and " + Long.toHexString(characters), Check.ARGUMENT, () -> withText(signs(80)),
                    x -> x.appendText(characters));
        }
    }

    /** "Returns the length that it had." */
    private static void clearOfAnyLength() {
        for (int length = 0; length <= 80; length++) {
            int due = length;
            RowTriggers x = withText(signs(length));
            Check.due("31: " + length, x::textLength, due);
            Check.due("30: " + length, x::clearText, due);
            Check.due("31: cleared", x::textLength, 0);
            Check.due("30: cleared already", x::clearText, 0);
            Check.due("29: from the start again", () -> x.appendText(Check.packed("r1")), 2);
            Check.due("32: nothing of the old text", x::textError, -1);
            Check.due("35: no changes", x::undoCount, 0);
        }
    }

    /** "the length of the text if it is incomplete (also if it is empty)" */
    private static void emptyIsIncomplete() {
        Check.due("32: empty", () -> new RowTriggers().textError(), 0);
        RowTriggers x = withText("r0");
        x.clearText();
        Check.due("32: cleared", x::textError, 0);
        Check.append(x, "r0");
        x.runText();
        Check.due("32: run", x::textError, 0);
    }

    /** "the length of the text if it is incomplete" */
    private static void incompleteTexts() {
        String[] commands = {"i0=0,0,0", "i9=999,10,100", "u0.0=0", "u9.9=999", "r5"};
        for (String before : new String[] {"", "r1;", "u1.2=30;i3=4,5,6;"}) {
            for (String command : commands) {
                for (int length = 0; length < command.length(); length++) {
                    String text = before + command.substring(0, length);
                    boolean complete = COMMANDS.matcher(text).matches();
                    Check.due("32: " + text, () -> withText(text).textError(), complete ? -1 : text.length());
                }
                Check.due("32: " + before + command, () -> withText(before + command).textError(), -1);
                Check.due("32: with ; behind it", () -> withText(before + command + ";").textError(),
                        before.length() + command.length() + 1);
            }
        }
        String full = signs(78) + "i7";
        Check.due("32: incomplete, and full", () -> withText(full).textError(), 80);
    }

    private static final Pattern COMMANDS = commands();

    private static Pattern commands() {
        String value = "(0|[1-9][0-9]?[0-9]?)";
        String command = "(i[0-9]=" + value + "," + value + "," + value + "|u[0-9]\\.[0-9]=" + value + "|r[0-9])";
        return Pattern.compile(command + "(;" + command + ")*");
    }

    /** "NONE if the text is correct" */
    private static void correctTexts() {
        for (int digit = 0; digit < 10; digit++) {
            String d = Integer.toString(digit);
            for (String text : new String[] {"r" + d, "u" + d + ".0=0", "u0." + d + "=0", "i" + d + "=0,0,0"}) {
                Check.due("32: " + text, () -> withText(text).textError(), -1);
            }
        }
        for (int value = 0; value <= 999; value++) {
            int number = value;
            Check.due("32: value " + value, () -> withText("u0.0=" + number).textError(), -1);
            Check.due("32: value " + value, () -> withText("i0=" + number + "," + number + "," + number).textError(), -1);
        }
        StringBuilder all = new StringBuilder("r0");
        while (all.length() <= 77) {
            Check.due("32: " + all, () -> withText(all.toString()).textError(), -1);
            all.append(";r").append(all.length() % 10);
        }
    }

    /** "the index of the first error of the text: of the first character that cannot follow the characters before it" */
    private static void eachCharacterThatCannotFollow() {
        String[] texts = {"i0=0,10,999;r1", "i1=5,60,0;u1.2=70", "u0.0=0;i1=2,3,4", "u1.1=12;u2.2=345;r1", "r0;r1;i2=7,80,9"};
        for (String text : texts) {
            for (int at = 0; at <= text.length(); at++) {
                for (char sign = 33; sign <= 126; sign++) {
                    String changed = text.substring(0, at) + sign;
                    int due = canGoOn(changed) ? COMMANDS.matcher(changed).matches() ? -1 : changed.length() : at;
                    Check.due("32: " + changed, () -> withText(changed).textError(), due);
                    if (due == at) {
                        Check.due("32: with more behind it: " + changed, () -> withText(changed + ";r0").textError(), due);
                    }
                }
            }
        }
    }

    /** Whether a correct text begins in this way. */
    private static boolean canGoOn(String text) {
        var matcher = COMMANDS.matcher(text);
        return matcher.matches() || matcher.hitEnd();
    }

    /** "values 0 to 999 without leading zeros" */
    private static void withoutLeadingZeros() {
        for (String zeros : new String[] {"00", "01", "007", "000", "09", "0999"}) {
            Check.due("32: update to " + zeros, () -> withText("u0.0=" + zeros).textError(), 6);
            Check.due("32: first " + zeros, () -> withText("i0=" + zeros + ",1,1").textError(), 4);
            Check.due("32: second " + zeros, () -> withText("i0=1," + zeros + ",1").textError(), 6);
            Check.due("32: third " + zeros, () -> withText("i0=1,1," + zeros).textError(), 8);
        }
        for (String great : new String[] {"1000", "9990", "9999", "1234567"}) {
            Check.due("32: update to " + great, () -> withText("u0.0=" + great).textError(), 8);
            Check.due("32: first " + great, () -> withText("i0=" + great + ",1,1").textError(), 6);
            Check.due("32: second " + great, () -> withText("i0=1," + great + ",1").textError(), 8);
            Check.due("32: third " + great, () -> withText("i0=1,1," + great).textError(), 10);
        }
    }

    /** "Rows and columns are one digit, 0 to 9" */
    private static void oneDigit() {
        for (String digits : new String[] {"00", "01", "10", "55", "99"}) {
            Check.due("32: remove " + digits, () -> withText("r" + digits).textError(), 2);
            Check.due("32: insert " + digits, () -> withText("i" + digits + "=1,1,1").textError(), 2);
            Check.due("32: row " + digits, () -> withText("u" + digits + ".1=1").textError(), 2);
            Check.due("32: column " + digits, () -> withText("u1." + digits + "=1").textError(), 4);
        }
        for (String none : new String[] {"", "-1", "+1", "a", "/", ":"}) {
            Check.due("32: remove " + none, () -> withText("r" + none).textError(), 1);
            Check.due("32: column " + none, () -> withText("u1." + none + "=1").textError(), 3);
        }
    }

    private static void firstErrorOfMany() {
        Check.due("32: two errors", () -> withText("r0;x;y").textError(), 3);
        Check.due("32: at the start", () -> withText("xx").textError(), 0);
        Check.due("32: at the end of 80", () -> withText(signs(79) + "x").textError(), 79);
        Check.due("32: no space is meant", () -> withText("r0;;r1").textError(), 3);
        Check.due("32: only ;", () -> withText(";").textError(), 0);
    }

    /** "Executes the commands of the text in order ... and then empties the text." */
    private static void runOfAText() {
        RowTriggers x = withText("i5=0,999,10;u5.0=999;u5.1=0;i0=1,2,3;r5;i5=7,8,9;r0");
        Check.due("33: all", x::runText, 7);
        Check.same("33: what they did", Check.wholePictureOf(x),
                "rows 1 false false false false false true,7,8,9 rules 0 events 7 log undo 1 text 0/0");
        Check.refused("33: the text is empty now", Check.STATE, () -> {
            RowTriggers y = withText("i0=1,2,3");
            y.runText();
            return y;
        }, y -> y.runText());
    }

    /** "Throws IllegalStateException if the text has an error": it stays as it is */
    private static void runOfAnError() {
        for (String text : new String[] {"", "r", "r0;", "r0;r", "x", "i0=1,1,1;x", "i0=1,1,1;u0.0=01", "r00", signs(79)}) {
            Check.refused("33: " + text, Check.STATE, () -> withText(text), RowTriggers::runText);
        }
        RowTriggers x = withText("i0=1,1,1;r");
        Check.fails("33: incomplete", Check.STATE, x::runText);
        Check.due("31: the text stays", x::textLength, 10);
        Check.due("14: nothing was done", x::rowCount, 0);
        x.appendText('0');
        Check.due("33: complete", x::runText, 2);
    }

    /** "up to the first one that fails" */
    private static void runUpToTheFirstThatFails() {
        String[] commands = {"i0=1,1,1", "u0.0=2", "u0.1=3", "r0", "i0=4,4,4"};
        for (int failing = 0; failing <= commands.length; failing++) {
            StringBuilder text = new StringBuilder();
            for (int i = 0; i < commands.length; i++) {
                text.append(i == 0 ? "" : ";").append(i == failing ? "r3;" : "").append(commands[i]);
            }
            RowTriggers x = withText(text.toString());
            int due = failing;
            Check.due("33: " + text, x::runText, due);
            Check.due("21: no events behind the one that fails", x::eventCount, due);
            Check.due("31: but the text is empty", x::textLength, 0);
            Check.due("35: and it is one change", x::undoCount, 1);
            Check.due("34: undone at once", x::undo, 0);
            Check.due("21: no events", x::eventCount, 0);
        }
    }

    /** Row 0, and rules that refuse a value of 900 in column 2, and add 500 to column 1 of row 0 when column 0 is 700. */
    private static RowTriggers ruled(String text) {
        RowTriggers x = new RowTriggers();
        x.insert(0, 1, 500, 3);
        x.addRule(RowTriggers.UPDATE, 2, 900);
        x.setAction(0, RowTriggers.REFUSE, 0, 0, 0);
        x.addRule(RowTriggers.UPDATE, 0, 700);
        x.setAction(1, RowTriggers.ADD, 0, 1, 500);
        x.addRule(RowTriggers.INSERT, 0, 700);
        x.setAction(2, RowTriggers.REFUSE, 0, 0, 0);
        x.addRule(RowTriggers.DELETE, 0, 600);
        x.setAction(3, RowTriggers.REFUSE, 0, 0, 0);
        Check.append(x, text);
        return x;
    }

    /** "A command fails if the method that does the same would throw an exception." */
    private static void commandsThatFail() {
        String[] failing = {"r1", "r5", "r6", "r7", "r8", "r9", "i0=1,1,1", "i0=1,500,3", "i6=1,1,1", "i9=1,1,1",
            "i1=700,0,0", "u1.0=1", "u6.0=1", "u9.0=1", "u0.3=1", "u0.9=1", "u1.3=1", "u9.9=9", "u0.2=900", "u0.0=700"};
        for (String command : failing) {
            RowTriggers x = ruled(command + ";r0");
            Check.due("33: fails: " + command, x::runText, 0);
            Check.same("33: does nothing: " + command, Check.wholePictureOf(x), Check.wholePictureOf(ruled(""))
                    .replaceAll("undo .*", "undo 6 text 0/0"));
            RowTriggers y = ruled("i4=5,5,5;" + command + ";r0");
            Check.due("33: fails as the second: " + command, y::runText, 1);
            Check.due("14: nothing behind it: " + command, y::rowCount, 2);
        }
        RowTriggers x = ruled("u0.0=600;r0;u0.0=5");
        Check.due("33: a DELETE that is refused", x::runText, 1);
        Check.due("15: nothing behind it", () -> x.valueAt(0, 0), 600);
    }

    /** An update that changes nothing throws nothing, so it does not fail. */
    private static void commandsThatDoNotFail() {
        RowTriggers x = ruled("u0.0=1;u0.1=500;u0.1=500;u0.0=699;u0.2=899;i1=599,999,999;r1;r0");
        Check.due("33: none of them fails", x::runText, 7);
        Check.due("21: five events", x::eventCount, 5);
        Check.due("13: refused", x.hasRow(0), true);
        RowTriggers y = ruled("u0.0=1");
        Check.due("33: no event", y::runText, 1);
        Check.due("21: only the INSERT", y::eventCount, 1);
    }

    /** 27 commands are as many as 80 characters can hold. */
    private static void manyCommands() {
        RowTriggers x = allRows();
        Check.append(x, "r0;r1;r2;r3;r4;r5;r5;r0;r0;r0;r0;r0;r0;r0;r0;r0;r0;r0;r0;r0;r0;r0;r0;r0;r0;r0;r0");
        Check.due("31: full", x::textLength, 80);
        Check.due("32: full", x::textError, -1);
        Check.due("33: six of 27", x::runText, 6);
        Check.due("31: empty again", x::textLength, 0);
        RowTriggers y = allRows();
        Check.append(y, "r0;r1;r2;r3;r4;r5;i0=0,0,0;r0;i0=0,0,0;r0;i0=0,0,0;r0;i0=0,0,0;r0;i0=0,0,0;r0");
        Check.due("33: all of sixteen", y::runText, 16);
        Check.due("21: each with its event", y::eventCount, 22);
        RowTriggers z = allRows();
        Check.append(z, "u0.0=1;u0.0=2;u0.0=3;u0.0=4;u0.0=5;u0.0=6;u0.0=7;u0.0=8;u0.0=9;u0.1=0;u0.1=10;r0");
        Check.due("31: full", z::textLength, 80);
        Check.due("33: all of twelve", z::runText, 12);
        Check.due("21: each with its event, but the one that changes nothing", z::eventCount, 17);
        Check.due("35: still one change", z::undoCount, 6);
    }

    private static RowTriggers allRows() {
        RowTriggers x = new RowTriggers();
        for (int row = 0; row < 6; row++) {
            x.insert(row, 0, 0, 0);
        }
        return x;
    }

    /** "This is one change, however many commands are executed."; "records the state, even if it alters nothing" */
    private static void oneChange() {
        String[] texts = {"r0", "i0=1,1,1", "i0=1,1,1;r0", "i0=1,1,1;i1=1,1,1;i2=2,2,2;i3=3,3,3;r0;r1;r2;r3"};
        for (String text : texts) {
            RowTriggers x = new RowTriggers();
            x.setDepth(4);
            Check.append(x, text);
            x.runText();
            Check.due("35: one more: " + text, x::undoCount, 2);
            x.undo();
            Check.due("14: as it was: " + text, x::rowCount, 0);
            Check.due("21: as it was: " + text, x::eventCount, 0);
            Check.due("31: but the text does not come back", x::textLength, 0);
        }
        RowTriggers full = new RowTriggers();
        for (int value = 0; value < 6; value++) {
            full.setDepth(value);
        }
        Check.append(full, "r0;r1");
        Check.due("33: none", full::runText, 0);
        Check.due("35: still six", full::undoCount, 6);
        for (int left = 5; left >= 0; left--) {
            full.undo();
        }
        Check.due("34: the oldest one was dropped", () -> full.setDepth(0), 0);
    }
}
