/** Promises 1 to 6: a new object, and the calls that change rules. */
public final class RulesTest {
    public static void main(String[] args) {
        newObject();
        addRule();
        setAction();
        turnMute();
        dropRule();
        dropRuleFromLog();
        setDepth();
        Check.end();
    }

    private static void newObject() {
        RowTriggers x = new RowTriggers();
        Check.same("1: a new object", Check.wholePictureOf(x),
                "rows 0 false false false false false false rules 0 events 0 log undo 0 text 0/0");
        Check.due("1: sum", () -> x.sumOf(0), 0);
        Check.due("1: no circle", x::circularRules, 0);
        Check.due("1: the greatest depth at first", () -> x.setDepth(0), 3);
        RowTriggers y = new RowTriggers();
        x.insert(0, 1, 2, 3);
        Check.due("1: objects share nothing", y::rowCount, 0);
    }

    private static void addRule() {
        RowTriggers x = new RowTriggers();
        for (int rule = 0; rule < 8; rule++) {
            int number = rule;
            Check.due("2: rule " + rule, () -> x.addRule(number % 3, number % 3, number == 0 ? 999 : 0), rule);
            Check.due("2: is a change", x::undoCount, Math.min(rule + 1, 6));
            Check.due("2: its action", () -> x.actionOf(number), RowTriggers.NOTHING);
            Check.due("2: it is not muted", x.isMuted(number), false);
            Check.due("2: it has not acted", () -> x.actsOf(number), 0);
        }
        x.dropRule(7);
        Check.due("2: room again", () -> x.addRule(2, 2, 999), 7);
        addRuleInThePlaceOfAnother();
    }

    private static void addRuleInThePlaceOfAnother() {
        RowTriggers x = new RowTriggers();
        x.addRule(0, 0, 500);
        x.setAction(0, RowTriggers.ADD, 0, 0, 1);
        x.insert(0, 500, 0, 0);
        x.turnMute(0);
        x.dropRule(0);
        Check.due("2: after a drop", () -> x.addRule(1, 1, 0), 0);
        Check.due("2: nothing of the dropped action", () -> x.actionOf(0), RowTriggers.NOTHING);
        Check.due("2: nothing of the dropped mute", x.isMuted(0), false);
        Check.due("2: nothing of the dropped acts", () -> x.actsOf(0), 0);
    }

    private static void setAction() {
        RowTriggers x = new RowTriggers();
        x.addRule(0, 0, 0);
        Check.due("3: ADD", () -> x.setAction(0, RowTriggers.ADD, 5, 2, -999), RowTriggers.NOTHING);
        Check.due("3: is a change", x::undoCount, 2);
        Check.due("3: TAKE", () -> x.setAction(0, RowTriggers.TAKE, 0, 0, 999), RowTriggers.ADD);
        Check.due("3: REFUSE", () -> x.setAction(0, RowTriggers.REFUSE, 0, 0, 0), RowTriggers.TAKE);
        Check.due("3: REFUSE again", () -> x.setAction(0, RowTriggers.REFUSE, 0, 0, 0), RowTriggers.REFUSE);
        Check.due("3: a change, even if nothing alters", x::undoCount, 5);
        Check.due("3: NOTHING", () -> x.setAction(0, RowTriggers.NOTHING, 0, 0, 0), RowTriggers.REFUSE);
    }

    private static void turnMute() {
        RowTriggers x = new RowTriggers();
        x.addRule(0, 0, 0);
        x.setAction(0, RowTriggers.REFUSE, 0, 0, 0);
        Check.due("4: mutes", x.turnMute(0), true);
        Check.due("4: is a change", x::undoCount, 3);
        Check.due("4: a muted rule does not refuse", () -> x.insert(0, 0, 0, 0), 1);
        Check.due("4: wakes", x.turnMute(0), false);
        Check.fails("4: a woken rule refuses", Check.STATE, () -> x.insert(1, 0, 0, 0));
        x.setAction(0, RowTriggers.NOTHING, 0, 0, 0);
        x.turnMute(0);
        x.insert(1, 0, 0, 0);
        Check.due("4: a muted rule does not act", () -> x.actsOf(0), 0);
        Check.due("4: nor is it in the log", x::logSize, 0);
    }

    private static void dropRule() {
        RowTriggers x = new RowTriggers();
        x.addRule(RowTriggers.INSERT, 0, 0);
        x.addRule(RowTriggers.INSERT, 1, 500);
        x.addRule(RowTriggers.DELETE, 0, 0);
        x.setAction(1, RowTriggers.ADD, 0, 0, 7);
        x.setAction(2, RowTriggers.TAKE, 5, 0, 0);
        x.turnMute(2);
        x.insert(0, 1, 500, 1);
        x.insert(1, 1, 499, 1);
        Check.due("5: it acted twice", () -> x.dropRule(0), 2);
        Check.due("5: is a change", x::undoCount, 6);
        Check.due("5: one less", x::ruleCount, 2);
        Check.due("5: rule 1 is rule 0 now", () -> x.actionOf(0), RowTriggers.ADD);
        Check.due("5: with its acts", () -> x.actsOf(0), 1);
        Check.due("5: rule 2 is rule 1 now", () -> x.actionOf(1), RowTriggers.TAKE);
        Check.due("5: with its mute", x.isMuted(1), true);
        Check.due("5: the moved rule acts as before", () -> x.insert(2, 0, 999, 0), 2);
        Check.due("5: on its own row", () -> x.valueAt(0, 0), 15);
        Check.due("5: events stay counted", x::eventCount, 5);
        Check.due("5: the last one", () -> x.dropRule(1), 0);
        Check.due("5: the first one", () -> x.dropRule(0), 2);
        Check.due("5: none", x::ruleCount, 0);
    }

    private static void dropRuleFromLog() {
        RowTriggers x = new RowTriggers();
        x.addRule(RowTriggers.UPDATE, 0, 0);
        x.addRule(RowTriggers.UPDATE, 0, 10);
        x.addRule(RowTriggers.UPDATE, 0, 0);
        x.insert(0, 0, 0, 0);
        for (int value = 1; value <= 12; value++) {
            x.update(0, 0, value);
        }
        // Acts: 0 2 for the values 1 to 9, then 0 1 2 three times; the log has the latest 16.
        Check.same("5: the log ahead of it", logOf(x), "2 1 0 2 1 0 2 1 0 2 0 2 0 2 0 2");
        Check.due("5: drops the middle one", () -> x.dropRule(1), 3);
        Check.same("5: the log without it", logOf(x), "1 0 1 0 1 0 1 0 1 0 1 0 1");
        x.update(0, 0, 1);
        Check.same("5: the log goes on", logOf(x), "1 0 1 0 1 0 1 0 1 0 1 0 1 0 1");
        Check.due("5: drops the first one", () -> x.dropRule(0), 13);
        Check.same("5: only one is left", logOf(x), "0 0 0 0 0 0 0 0");
        Check.due("5: drops that", () -> x.dropRule(0), 13);
        Check.due("5: the log is empty", x::logSize, 0);
        x.addRule(RowTriggers.UPDATE, 1, 0);
        x.update(0, 1, 5);
        Check.same("5: and is used again", logOf(x), "0");
    }

    private static String logOf(RowTriggers x) {
        StringBuilder s = new StringBuilder();
        for (int ago = 0; ago < x.logSize(); ago++) {
            s.append(ago == 0 ? "" : " ").append(x.loggedRule(ago));
        }
        return s.toString();
    }

    private static void setDepth() {
        RowTriggers x = new RowTriggers();
        Check.due("6: 5", () -> x.setDepth(5), 3);
        Check.due("6: is a change", x::undoCount, 1);
        Check.due("6: 0", () -> x.setDepth(0), 5);
        Check.due("6: 0 again", () -> x.setDepth(0), 0);
        Check.due("6: a change, even if nothing alters", x::undoCount, 3);
        x.addRule(RowTriggers.INSERT, 0, 0);
        x.setAction(0, RowTriggers.ADD, 0, 0, 1);
        Check.fails("6: a depth of 1 is too great", Check.STATE, () -> x.insert(0, 0, 0, 0));
        x.setDepth(1);
        Check.due("6: and now it is not", () -> x.insert(0, 0, 0, 0), 2);
    }
}
