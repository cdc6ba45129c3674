/** Promises 25 to 28: which rules can set off which. */
public final class ChainsTest {
    public static void main(String[] args) {
        chain();
        circle();
        Check.end();
    }

    private static void chain() {
        RowTriggers x = new RowTriggers();
        x.addRule(RowTriggers.DELETE, 0, 0);
        x.addRule(RowTriggers.UPDATE, 2, 0);
        x.setAction(1, RowTriggers.TAKE, 0, 0, 0);
        x.addRule(RowTriggers.UPDATE, 1, 0);
        x.setAction(2, RowTriggers.ADD, 0, 2, 1);
        x.addRule(RowTriggers.UPDATE, 0, 0);
        x.setAction(3, RowTriggers.ADD, 0, 1, 1);
        x.addRule(RowTriggers.INSERT, 0, 0);
        x.setAction(4, RowTriggers.ADD, 0, 0, 1);
        told(x, "a chain backwards", "0 1 3 7 15", 0);
        x.turnMute(2);
        told(x, "a broken chain", "0 1 0 0 8", 0);
        x.turnMute(4);
        told(x, "its first one muted", "0 1 0 0 0", 0);
        x.turnMute(2);
        told(x, "its first one muted alone", "0 1 3 7 0", 0);
    }

    private static void circle() {
        RowTriggers x = new RowTriggers();
        x.addRule(RowTriggers.UPDATE, 0, 0);
        x.setAction(0, RowTriggers.ADD, 0, 1, 1);
        x.addRule(RowTriggers.UPDATE, 1, 0);
        x.setAction(1, RowTriggers.ADD, 0, 2, 1);
        x.addRule(RowTriggers.UPDATE, 2, 0);
        x.setAction(2, RowTriggers.ADD, 0, 0, 1);
        x.addRule(RowTriggers.UPDATE, 2, 0);
        x.setAction(3, RowTriggers.TAKE, 0, 0, 0);
        x.addRule(RowTriggers.DELETE, 0, 0);
        x.addRule(RowTriggers.INSERT, 0, 0);
        x.setAction(5, RowTriggers.ADD, 0, 0, 1);
        told(x, "a circle of three with a tail and a way in", "31 31 31 16 0 31", 7);
        x.setAction(4, RowTriggers.TAKE, 0, 0, 0);
        told(x, "two circles", "31 31 31 16 16 31", 23);
        String before = Check.wholePictureOf(x);
        x.reachOf(0);
        x.reachByTable(0);
        x.circularRules();
        x.canSetOff(0, 1);
        Check.same("25 to 28 change nothing", Check.wholePictureOf(x), before);
        x.dropRule(1);
        told(x, "a circle no more", "0 1 8 8 1", 8);
    }

    /** Compares the reach of each rule, and the circular ones. */
    static void told(RowTriggers x, String what, String reaches, int circular) {
        Check.due("28: " + what, x::circularRules, circular);
        StringBuilder searched = new StringBuilder();
        StringBuilder looked = new StringBuilder();
        for (int rule = 0; rule < x.ruleCount(); rule++) {
            searched.append(rule == 0 ? "" : " ").append(x.reachOf(rule));
            looked.append(rule == 0 ? "" : " ").append(x.reachByTable(rule));
        }
        Check.same("26: " + what, searched.toString(), reaches);
        Check.same("27: " + what, looked.toString(), reaches);
    }
}
