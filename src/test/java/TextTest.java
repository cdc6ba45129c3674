/** Promises 29 to 33: the text. */
public final class TextTest {
    public static void main(String[] args) {
        appendText();
        fullText();
        clearText();
        correctTexts();
        errors();
        runText();
        runTextUpToFailure();
        runTextIsOneChange();
        Check.end();
    }

    private static void appendText() {
        RowTriggers x = new RowTriggers();
        Check.due("29: one", () -> x.appendText('i'), 1);
        Check.due("29: eight", () -> x.appendText(Check.packed("0=12,3,4")), 9);
        Check.due("29: three", () -> x.appendText(Check.packed("56;")), 12);
        Check.due("31: the length", x::textLength, 12);
        Check.due("29: is no change", x::undoCount, 0);
        x.appendText(Check.packed("i1=9,8,7"));
        Check.due("33: in the order of the characters", x::runText, 2);
        Check.due("29: the values", () -> x.valueAt(0, 0) * 1000000 + x.valueAt(0, 1) * 1000 + x.valueAt(0, 2), 12003456);
        Check.due("29: least and greatest code", () -> x.appendText(33 << 8 | 126), 2);
    }

    private static void fullText() {
        RowTriggers x = new RowTriggers();
        for (int i = 1; i <= 9; i++) {
            Check.append(x, "u0.0=99;");
        }
        Check.append(x, "u0.0=9");
        Check.due("31: 78", x::textLength, 78);
        Check.failsAndKeeps(x, "29: three more", Check.STATE, () -> x.appendText(Check.packed("9;r")));
        Check.failsAndKeeps(x, "29: too many, and a wrong one", Check.ARGUMENT, () -> x.appendText(Check.packed("9; r")));
        Check.due("29: two more", () -> x.appendText(Check.packed("99")), 80);
        Check.due("32: a correct text of 80", x::textError, -1);
        Check.failsAndKeeps(x, "29: one more", Check.STATE, () -> x.appendText('9'));
        x.insert(0, 0, 0, 0);
        Check.due("33: all of it", x::runText, 10);
        Check.due("33: the last one", () -> x.valueAt(0, 0), 999);
        Check.append(x, "r0;r0;r0;r0;r0;r0;r0;r0;r0;r0;r0;r0;r0;r0;r0;r0;r0;r0;r0;r0;r0;r0;r0;r0;r0;r0;r0");
        Check.due("31: 27 commands", x::textLength, 80);
        Check.due("32: 27 commands", x::textError, -1);
        x.clearText();
        Check.append(x, "r0;r0;r0;r0;r0;r0;r0;r0;r0;r0;r0;r0;r0;r0;r0;r0;r0;r0;r0;r0;r0;r0;r0;r0;r0;u0.0");
        Check.due("32: an incomplete text of 79", x::textError, 79);
        x.appendText('=');
        Check.due("32: an incomplete text of 80", x::textError, 80);
    }

    private static void clearText() {
        RowTriggers x = new RowTriggers();
        Check.due("30: empty", x::clearText, 0);
        Check.append(x, "r0;x");
        Check.due("30: four", x::clearText, 4);
        Check.due("31: none left", x::textLength, 0);
        Check.due("30: is no change", x::undoCount, 0);
        Check.append(x, "r1");
        Check.due("32: nothing of the old one", x::textError, -1);
    }

    private static int errorOf(String text) {
        RowTriggers x = new RowTriggers();
        Check.append(x, text);
        int error = x.textError();
        if (error != RowTriggers.NONE) {
            Check.failsAndKeeps(x, "33: " + text, Check.STATE, x::runText);
        }
        return error;
    }

    private static void correctTexts() {
        String[] correct = {"r0", "r9", "u0.0=0", "u9.9=999", "i0=0,0,0", "i9=10,100,999", "r0;r1;r2", "r1;u0.1=5;i3=1,2,3",
            "i1=1,2,3;i2=4,5,6;u1.1=990;r0", "u5.2=100;r1"};
        for (String text : correct) {
            Check.due("32: " + text, () -> errorOf(text), -1);
        }
    }

    /** Texts with their first errors marked by what stands behind "|". */
    private static void errors() {
        String[] wrong = {"|", "|x", "|0", "|;", "|I", "|=", "r|", "r|x", "r|;", "r0|0", "r0|x", "r0|=", "r0;|", "r0;|;", "r0;|0",
            "r0|,r1", "u|", "u|=", "u0|", "u0|=", "u0|0.1=1", "u0.|", "u0.|=1", "u0.1|", "u0.1|0=1", "u0.1|,", "u0.1=|",
            "u0.1=|;", "u0.1=|-1", "u0.1=0|0", "u0.1=0|1", "u0.1=999|9", "u0.1=10|.", "u0.1=1|,2", "u0.1=5;|", "u|.",
            "i|", "i|=", "i0|", "i0|,", "i0|.0", "i0|1=", "i0=|", "i0=|,", "i0=1|", "i0=1|;", "i0=1|=", "i0=0|1",
            "i0=100|0", "i0=1,|", "i0=1,|,", "i0=1,2|", "i0=1,2|;", "i0=1,0|2", "i0=1,2,|", "i0=1,2,|;",
            "i0=1,2,3|,", "i0=1,2,0|3", "i0=1,2,123|4", "i0=1,2,3;|", "i0=1,2,3|i", "r0;u1.1=9|x;", "r0;r1;i2=1,2|"};
        for (String marked : wrong) {
            Check.due("32: " + marked, () -> errorOf(marked.replace("|", "")), marked.indexOf('|'));
        }
    }

    private static void runText() {
        RowTriggers x = new RowTriggers();
        Check.append(x, "i0=1,2,3;i5=4,5,6;u0.1=999;r5;u0.1=999");
        Check.due("33: five commands", x::runText, 5);
        Check.same("33: what they did", Check.pictureOf(x), "rows 1 true,1,999,3 false false false false false rules 0 events 4 log");
        Check.due("33: empties the text", x::textLength, 0);
        Check.due("32: empties the text", x::textError, 0);
        Check.failsAndKeeps(x, "33: an empty text", Check.STATE, x::runText);
        x.addRule(RowTriggers.UPDATE, 2, 5);
        x.setAction(0, RowTriggers.ADD, 0, 0, 1);
        Check.append(x, "u0.2=4;u0.2=5;u0.2=6");
        Check.due("33: with rules", x::runText, 3);
        Check.due("33: what the rules did", () -> x.valueAt(0, 0), 3);
        Check.due("33: and noted", x::logSize, 2);
    }

    private static void runTextUpToFailure() {
        String[] failing = {"r1", "r6", "r9", "u1.0=1", "u6.0=1", "u0.3=1", "u0.9=5", "i0=1,1,1", "i6=1,1,1", "u0.0=500"};
        for (String command : failing) {
            RowTriggers x = new RowTriggers();
            x.addRule(RowTriggers.UPDATE, 0, 400);
            x.setAction(0, RowTriggers.ADD, 0, 1, 999);
            Check.append(x, "i0=1,2,3;i2=4,5,6;" + command + ";r0");
            Check.due("33: up to " + command, x::runText, 2);
            Check.same("33: nothing of " + command, Check.wholePictureOf(x),
                    "rows 2 true,1,2,3 false true,4,5,6 false false false rules 1 2,false,0- events 2 log undo 3 text 0/0");
        }
        RowTriggers x = new RowTriggers();
        Check.append(x, "r0;i0=1,1,1");
        Check.due("33: the first one fails", x::runText, 0);
        Check.due("33: and no other is executed", x::rowCount, 0);
        Check.due("33: is a change all the same", x::undoCount, 1);
        Check.due("33: and empties the text", x::textLength, 0);
    }

    private static void runTextIsOneChange() {
        RowTriggers x = new RowTriggers();
        x.insert(0, 1, 1, 1);
        Check.append(x, "r0;i1=1,1,1;i2=2,2,2;i3=3,3,3;u3.0=4;r2;r1;i4=1,1,1");
        Check.due("33: eight commands", x::runText, 8);
        Check.due("33: one change", x::undoCount, 2);
        x.undo();
        Check.same("34: undone at once", Check.wholePictureOf(x),
                "rows 1 true,1,1,1 false false false false false rules 0 events 1 log undo 1 text 0/0");
    }
}
