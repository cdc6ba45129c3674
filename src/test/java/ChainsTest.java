/** Promises 25 to 28: which rules can set off which. */
public final class ChainsTest {
    public static void main(String[] args) {
        straightAway();
        itself();
        chain();
        circle();
        wrongRules();
        Check.end();
    }

    private static void straightAway() {
        for (int action = 0; action < 4; action++) {
            for (int column = 0; column < 3; column++) {
                RowTriggers x = new RowTriggers();
                x.addRule(RowTriggers.INSERT, 0, 999);
                x.setAction(0, action, 0, column, 0);
                for (int event = 0; event < 3; event++) {
                    for (int watched = 0; watched < 3; watched++) {
                        if (x.ruleCount() == 8) {
                            x.dropRule(1);
                        }
                        int other = x.addRule(event, watched, 999);
                        x.setAction(other, event == 0 ? 0 : 1, 0, 0, 0);
                        boolean can = action == RowTriggers.ADD && event == RowTriggers.UPDATE && watched == column
                                || action == RowTriggers.TAKE && event == RowTriggers.DELETE;
                        String what = "action " + action + " on " + column + ", event " + event + " of " + watched;
                        Check.due("25: " + what, x.canSetOff(0, other), can);
                        Check.due("25: not back, " + what, x.canSetOff(other, 0), false);
                        Check.due("26: " + what, (x.reachOf(0) & 1 << other) != 0, can);
                        Check.due("27: " + what, (x.reachByTable(0) & 1 << other) != 0, can);
                    }
                }
            }
        }
    }

    private static void itself() {
        RowTriggers x = new RowTriggers();
        x.addRule(RowTriggers.UPDATE, 1, 999);
        x.setAction(0, RowTriggers.ADD, 0, 1, 0);
        Check.due("25: itself", x.canSetOff(0, 0), true);
        told(x, "itself", "1", 1);
        x.turnMute(0);
        Check.due("25: itself, muted", x.canSetOff(0, 0), false);
        told(x, "itself, muted", "0", 0);
        x.turnMute(0);
        x.setAction(0, RowTriggers.ADD, 0, 2, 0);
        told(x, "not itself", "0", 0);
        RowTriggers y = new RowTriggers();
        y.addRule(RowTriggers.DELETE, 0, 0);
        y.setAction(0, RowTriggers.TAKE, 0, 0, 0);
        told(y, "TAKE itself", "1", 1);
    }

    private static void chain() {
        RowTriggers x = new RowTriggers();
        x.addRule(RowTriggers.DELETE, 0, 0);
        x.addRule(RowTriggers.UPDATE, 2, 0);
        x.setAction(1, RowTriggers.TAKE, 0, 0, 0);
        x.addRule(RowTriggers.UPDATE, 1, 0);
        x.setAction(2, RowTriggers.ADD, 0, 2, 1);
        x.addRule(RowTriggers.UPDATE, 0, 0);
        x.setAction(3, RowTriggers.ADD, 0, 1, 1);
        x.addRule(RowTriggers.INSERT, 0, 0);
        x.setAction(4, RowTriggers.ADD, 0, 0, 1);
        told(x, "a chain backwards", "0 1 3 7 15", 0);
        x.turnMute(2);
        told(x, "a broken chain", "0 1 0 0 8", 0);
        x.turnMute(4);
        told(x, "its first one muted", "0 1 0 0 0", 0);
        x.turnMute(2);
        told(x, "its first one muted alone", "0 1 3 7 0", 0);
    }

    private static void circle() {
        RowTriggers x = new RowTriggers();
        x.addRule(RowTriggers.UPDATE, 0, 0);
        x.setAction(0, RowTriggers.ADD, 0, 1, 1);
        x.addRule(RowTriggers.UPDATE, 1, 0);
        x.setAction(1, RowTriggers.ADD, 0, 2, 1);
        x.addRule(RowTriggers.UPDATE, 2, 0);
        x.setAction(2, RowTriggers.ADD, 0, 0, 1);
        x.addRule(RowTriggers.UPDATE, 2, 0);
        x.setAction(3, RowTriggers.TAKE, 0, 0, 0);
        x.addRule(RowTriggers.DELETE, 0, 0);
        x.addRule(RowTriggers.INSERT, 0, 0);
        x.setAction(5, RowTriggers.ADD, 0, 0, 1);
        told(x, "a circle of three with a tail and a way in", "31 31 31 16 0 31", 7);
        x.setAction(4, RowTriggers.TAKE, 0, 0, 0);
        told(x, "two circles", "31 31 31 16 16 31", 23);
        String before = Check.wholePictureOf(x);
        x.reachOf(0);
        x.reachByTable(0);
        x.circularRules();
        x.canSetOff(0, 1);
        Check.same("25 to 28 change nothing", Check.wholePictureOf(x), before);
        x.dropRule(1);
        told(x, "a circle no more", "0 1 8 8 1", 8);
    }

    /** Compares the reach of each rule, and the circular ones. */
    private static void told(RowTriggers x, String what, String reaches, int circular) {
        Check.due("28: " + what, x::circularRules, circular);
        StringBuilder searched = new StringBuilder();
        StringBuilder looked = new StringBuilder();
        for (int rule = 0; rule < x.ruleCount(); rule++) {
            searched.append(rule == 0 ? "" : " ").append(x.reachOf(rule));
            looked.append(rule == 0 ? "" : " ").append(x.reachByTable(rule));
        }
        Check.same("26: " + what, searched.toString(), reaches);
        Check.same("27: " + what, looked.toString(), reaches);
    }

    private static void wrongRules() {
        RowTriggers x = new RowTriggers();
        Check.due("28: no rules", x::circularRules, 0);
        Check.fails("25: no rules", Check.INDEX, () -> Check.number(x.canSetOff(0, 0)));
        x.addRule(0, 0, 0);
        x.addRule(0, 0, 0);
        for (int rule : new int[] {-1, 2, 8, Integer.MIN_VALUE, Integer.MAX_VALUE}) {
            Check.failsAndKeeps(x, "25: rule " + rule, Check.INDEX, () -> Check.number(x.canSetOff(rule, 0)));
            Check.failsAndKeeps(x, "25: other " + rule, Check.INDEX, () -> Check.number(x.canSetOff(0, rule)));
            Check.failsAndKeeps(x, "26: rule " + rule, Check.INDEX, () -> x.reachOf(rule));
            Check.failsAndKeeps(x, "27: rule " + rule, Check.INDEX, () -> x.reachByTable(rule));
        }
    }
}
