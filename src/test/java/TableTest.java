/** Promises 13 to 24: what is told of the table, and of what rules have done. */
public final class TableTest {
    public static void main(String[] args) {
        table();
        wrongPlaces();
        rules();
        events();
        log();
        longLog();
        Check.end();
    }

    private static void table() {
        RowTriggers x = new RowTriggers();
        x.insert(0, 1, 20, 300);
        x.insert(5, 999, 999, 999);
        x.insert(3, 4, 0, 6);
        for (int row = 0; row < 6; row++) {
            Check.due("13: row " + row, x.hasRow(row), row == 0 || row == 3 || row == 5);
        }
        Check.due("14: rows", x::rowCount, 3);
        Check.due("15: a value", () -> x.valueAt(0, 0), 1);
        Check.due("15: a value", () -> x.valueAt(0, 2), 300);
        Check.due("15: a value", () -> x.valueAt(5, 1), 999);
        Check.due("15: a value", () -> x.valueAt(3, 1), 0);
        Check.due("16: sum of column 0", () -> x.sumOf(0), 1004);
        Check.due("16: sum of column 1", () -> x.sumOf(1), 1019);
        Check.due("16: sum of column 2", () -> x.sumOf(2), 1305);
        x.remove(5);
        Check.due("13: taken out", x.hasRow(5), false);
        Check.due("14: rows", x::rowCount, 2);
        Check.fails("15: taken out", Check.STATE, () -> x.valueAt(5, 1));
        Check.due("16: without the row that is taken out", () -> x.sumOf(0), 5);
        x.remove(0);
        x.remove(3);
        Check.due("14: no rows", x::rowCount, 0);
        Check.due("16: sum of no rows", () -> x.sumOf(1), 0);
        Check.due("these are no changes", x::undoCount, 6);
    }

    private static void wrongPlaces() {
        RowTriggers x = new RowTriggers();
        x.insert(1, 0, 0, 0);
        for (int row : new int[] {-1, 6, Integer.MIN_VALUE, Integer.MAX_VALUE}) {
            Check.failsAndKeeps(x, "13: row " + row, Check.INDEX, () -> Check.number(x.hasRow(row)));
            Check.failsAndKeeps(x, "15: row " + row, Check.INDEX, () -> x.valueAt(row, 0));
        }
        for (int column : new int[] {-1, 3, Integer.MIN_VALUE, Integer.MAX_VALUE}) {
            Check.failsAndKeeps(x, "15: column " + column, Check.INDEX, () -> x.valueAt(1, column));
            Check.failsAndKeeps(x, "15: no row, and column " + column, Check.INDEX, () -> x.valueAt(0, column));
            Check.failsAndKeeps(x, "16: column " + column, Check.INDEX, () -> x.sumOf(column));
        }
        Check.failsAndKeeps(x, "15: no row", Check.STATE, () -> x.valueAt(0, 0));
    }

    private static void rules() {
        RowTriggers x = new RowTriggers();
        x.addRule(0, 0, 0);
        x.addRule(1, 0, 0);
        x.setAction(1, RowTriggers.TAKE, 0, 0, 0);
        x.turnMute(1);
        Check.due("17: rules", x::ruleCount, 2);
        Check.due("18: of rule 0", () -> x.actionOf(0), RowTriggers.NOTHING);
        Check.due("18: of rule 1", () -> x.actionOf(1), RowTriggers.TAKE);
        Check.due("19: of rule 0", x.isMuted(0), false);
        Check.due("19: of rule 1", x.isMuted(1), true);
        x.insert(0, 0, 0, 0);
        x.insert(1, 0, 0, 0);
        Check.due("20: of rule 0", () -> x.actsOf(0), 2);
        Check.due("20: of rule 1", () -> x.actsOf(1), 0);
        for (int rule : new int[] {-1, 2, 8, Integer.MIN_VALUE, Integer.MAX_VALUE}) {
            Check.failsAndKeeps(x, "18: rule " + rule, Check.INDEX, () -> x.actionOf(rule));
            Check.failsAndKeeps(x, "19: rule " + rule, Check.INDEX, () -> Check.number(x.isMuted(rule)));
            Check.failsAndKeeps(x, "20: rule " + rule, Check.INDEX, () -> x.actsOf(rule));
        }
    }

    private static void events() {
        RowTriggers x = new RowTriggers();
        Check.due("21: none", x::eventCount, 0);
        x.insert(0, 0, 0, 0);
        x.update(0, 0, 0);
        Check.due("21: no change is no event", x::eventCount, 1);
        x.addRule(RowTriggers.UPDATE, 0, 0);
        x.setAction(0, RowTriggers.ADD, 0, 1, 5);
        x.update(0, 0, 1);
        Check.due("21: with what followed", x::eventCount, 3);
        x.setAction(0, RowTriggers.ADD, 0, 1, 999);
        Check.failsAndKeeps(x, "21: refused", Check.STATE, () -> x.update(0, 0, 2));
        Check.due("21: none of a refused statement", x::eventCount, 3);
        x.eventsOfUpdate(0, 1, 6);
        Check.due("21: none of what is only told", x::eventCount, 3);
        x.remove(0);
        Check.due("21: a DELETE", x::eventCount, 4);
    }

    private static void log() {
        RowTriggers x = new RowTriggers();
        Check.due("22: empty", x::logSize, 0);
        Check.failsAndKeeps(x, "23: empty", Check.INDEX, () -> x.loggedRule(0));
        Check.failsAndKeeps(x, "24: empty", Check.INDEX, () -> x.loggedDepth(0));
        x.addRule(RowTriggers.UPDATE, 1, 0);
        x.addRule(RowTriggers.UPDATE, 0, 0);
        x.setAction(1, RowTriggers.ADD, 0, 1, 1);
        x.insert(0, 0, 0, 0);
        x.update(0, 0, 1);
        Check.due("22: two", x::logSize, 2);
        Check.due("23: the latest", () -> x.loggedRule(0), 0);
        Check.due("23: the one before", () -> x.loggedRule(1), 1);
        Check.due("24: the latest", () -> x.loggedDepth(0), 1);
        Check.due("24: the one before", () -> x.loggedDepth(1), 0);
        for (int ago : new int[] {-1, 2, 16, Integer.MIN_VALUE, Integer.MAX_VALUE}) {
            Check.failsAndKeeps(x, "23: ago " + ago, Check.INDEX, () -> x.loggedRule(ago));
            Check.failsAndKeeps(x, "24: ago " + ago, Check.INDEX, () -> x.loggedDepth(ago));
        }
    }

    private static void longLog() {
        RowTriggers x = new RowTriggers();
        x.addRule(RowTriggers.UPDATE, 1, 0);
        x.addRule(RowTriggers.UPDATE, 0, 0);
        x.setAction(1, RowTriggers.ADD, 0, 1, 1);
        x.insert(0, 0, 0, 0);
        for (int i = 1; i <= 11; i++) {
            x.update(0, 0, i);
            int size = Math.min(2 * i, 16);
            Check.due("22: after " + i, x::logSize, size);
            for (int ago = 0; ago < size; ago++) {
                int a = ago;
                Check.due("23: after " + i + ", ago " + a, () -> x.loggedRule(a), a % 2);
                Check.due("24: after " + i + ", ago " + a, () -> x.loggedDepth(a), 1 - a % 2);
            }
            Check.fails("23: after " + i, Check.INDEX, () -> x.loggedRule(size));
        }
        x.update(0, 1, 100);
        Check.due("22: still 16", x::logSize, 16);
        Check.same("24: the odd one", x.loggedDepth(0) + " " + x.loggedDepth(1) + " " + x.loggedDepth(15), "0 1 1");
        Check.due("20: all acts count", () -> x.actsOf(0), 12);
    }
}
