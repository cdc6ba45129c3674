/** Promises 13 to 24: what is told of the table, and of what rules have done. */
public final class TableTest {
    public static void main(String[] args) {
        table();
        rules();
        events();
        log();
        Check.end();
    }

    private static void table() {
        RowTriggers x = new RowTriggers();
        x.insert(0, 1, 20, 300);
        x.insert(5, 999, 999, 999);
        x.insert(3, 4, 0, 6);
        for (int row = 0; row < 6; row++) {
            Check.due("13: row " + row, x.hasRow(row), row == 0 || row == 3 || row == 5);
        }
        Check.due("14: rows", x::rowCount, 3);
        Check.due("15: a value", () -> x.valueAt(0, 0), 1);
        Check.due("15: a value", () -> x.valueAt(0, 2), 300);
        Check.due("15: a value", () -> x.valueAt(5, 1), 999);
        Check.due("15: a value", () -> x.valueAt(3, 1), 0);
        Check.due("16: sum of column 0", () -> x.sumOf(0), 1004);
        Check.due("16: sum of column 1", () -> x.sumOf(1), 1019);
        Check.due("16: sum of column 2", () -> x.sumOf(2), 1305);
        x.remove(5);
        Check.due("13: taken out", x.hasRow(5), false);
        Check.due("14: rows", x::rowCount, 2);
        Check.fails("15: taken out", Check.STATE, () -> x.valueAt(5, 1));
        Check.due("16: without the row that is taken out", () -> x.sumOf(0), 5);
        x.remove(0);
        x.remove(3);
        Check.due("14: no rows", x::rowCount, 0);
        Check.due("16: sum of no rows", () -> x.sumOf(1), 0);
        Check.due("these are no changes", x::undoCount, 6);
    }

    private static void rules() {
        RowTriggers x = new RowTriggers();
        x.addRule(0, 0, 0);
        x.addRule(1, 0, 0);
        x.setAction(1, RowTriggers.TAKE, 0, 0, 0);
        x.turnMute(1);
        Check.due("17: rules", x::ruleCount, 2);
        Check.due("18: of rule 0", () -> x.actionOf(0), RowTriggers.NOTHING);
        Check.due("18: of rule 1", () -> x.actionOf(1), RowTriggers.TAKE);
        Check.due("19: of rule 0", x.isMuted(0), false);
        Check.due("19: of rule 1", x.isMuted(1), true);
        x.insert(0, 0, 0, 0);
        x.insert(1, 0, 0, 0);
        Check.due("20: of rule 0", () -> x.actsOf(0), 2);
        Check.due("20: of rule 1", () -> x.actsOf(1), 0);
    }

    private static void events() {
        RowTriggers x = new RowTriggers();
        Check.due("21: none", x::eventCount, 0);
        x.insert(0, 0, 0, 0);
        x.update(0, 0, 0);
        Check.due("21: no change is no event", x::eventCount, 1);
        x.addRule(RowTriggers.UPDATE, 0, 0);
        x.setAction(0, RowTriggers.ADD, 0, 1, 5);
        x.update(0, 0, 1);
        Check.due("21: with what followed", x::eventCount, 3);
        x.setAction(0, RowTriggers.ADD, 0, 1, 999);
        Check.failsAndKeeps(x, "21: refused", Check.STATE, () -> x.update(0, 0, 2));
        Check.due("21: none of a refused statement", x::eventCount, 3);
        x.eventsOfUpdate(0, 1, 6);
        Check.due("21: none of what is only told", x::eventCount, 3);
        x.remove(0);
        Check.due("21: a DELETE", x::eventCount, 4);
    }

    private static void log() {
        RowTriggers x = new RowTriggers();
        Check.due("22: empty", x::logSize, 0);
        Check.failsAndKeeps(x, "23: empty", Check.INDEX, () -> x.loggedRule(0));
        Check.failsAndKeeps(x, "24: empty", Check.INDEX, () -> x.loggedDepth(0));
        x.addRule(RowTriggers.UPDATE, 1, 0);
        x.addRule(RowTriggers.UPDATE, 0, 0);
        x.setAction(1, RowTriggers.ADD, 0, 1, 1);
        x.insert(0, 0, 0, 0);
        x.update(0, 0, 1);
        Check.due("22: two", x::logSize, 2);
        Check.due("23: the latest", () -> x.loggedRule(0), 0);
        Check.due("23: the one before", () -> x.loggedRule(1), 1);
        Check.due("24: the latest", () -> x.loggedDepth(0), 1);
        Check.due("24: the one before", () -> x.loggedDepth(1), 0);
    }
}
