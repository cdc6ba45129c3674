/** Promises 13 to 24: each sentence that names a boundary case, with a test of its own. */
public final class TableEdgesTest {
    public static void main(String[] args) {
        noSuchRow();
        noSuchRowOrColumn();
        valueOfNoRow();
        valueAtTheEnds();
        sumOverRowsThatAreThere();
        rowsFromNoneToAll();
        rulesFromNoneToAll();
        noSuchRule();
        actsWithoutEvents();
        eventsThatHappened();
        notSoManyActs();
        atMostSixteen();
        latestOnes();
        lookingChangesNothing();
        Check.end();
    }

    /** Row 1 alone, two rules of which one has acted twice, one of those acts for an event of the depth 1. */
    private static RowTriggers oneRow() {
        RowTriggers x = new RowTriggers();
        x.insert(1, 10, 20, 30);
        x.insert(2, 5, 5, 5);
        x.remove(2);
        x.addRule(RowTriggers.UPDATE, 0, 11);
        x.addRule(RowTriggers.DELETE, 0, 0);
        x.setAction(0, RowTriggers.ADD, 1, 0, 0);
        x.update(1, 0, 11);
        x.update(1, 0, 12);
        return x;
    }

    /** "Throws IndexOutOfBoundsException if there is no such row" */
    private static void noSuchRow() {
        for (int row : Check.outside(0, 5)) {
            Check.refused("13: row " + row, Check.INDEX, TableEdgesTest::oneRow, x -> Check.number(x.hasRow(row)));
            Check.refused("13: row " + row, Check.INDEX, RowTriggers::new, x -> Check.number(x.hasRow(row)));
        }
        RowTriggers x = oneRow();
        for (int row = 0; row < 6; row++) {
            Check.due("13: row " + row, x.hasRow(row), row == 1);
        }
    }

    /** "Throws IndexOutOfBoundsException if there is no such row or column", also where the row is not there */
    private static void noSuchRowOrColumn() {
        for (int row : Check.outside(0, 5)) {
            Check.refused("15: row " + row, Check.INDEX, TableEdgesTest::oneRow, x -> x.valueAt(row, 0));
            Check.refused("15: row " + row + ", column 3", Check.INDEX, TableEdgesTest::oneRow, x -> x.valueAt(row, 3));
        }
        for (int column : Check.outside(0, 2)) {
            Check.refused("15: column " + column, Check.INDEX, TableEdgesTest::oneRow, x -> x.valueAt(1, column));
            Check.refused("15: no row, column " + column, Check.INDEX, TableEdgesTest::oneRow, x -> x.valueAt(0, column));
            Check.refused("16: column " + column, Check.INDEX, TableEdgesTest::oneRow, x -> x.sumOf(column));
            Check.refused("16: no rows, column " + column, Check.INDEX, RowTriggers::new, x -> x.sumOf(column));
        }
    }

    /** "Throws IllegalStateException if the row is not there": never, no longer, and not yet again */
    private static void valueOfNoRow() {
        for (int row : new int[] {0, 2, 3, 4, 5}) {
            Check.refused("15: row " + row, Check.STATE, TableEdgesTest::oneRow, x -> x.valueAt(row, 0));
            Check.refused("15: row " + row, Check.STATE, TableEdgesTest::oneRow, x -> x.valueAt(row, 2));
        }
        RowTriggers x = oneRow();
        x.insert(2, 6, 7, 8);
        Check.due("15: it is there again", () -> x.valueAt(2, 2), 8);
        x.undo();
        Check.fails("15: and that is undone", Check.STATE, () -> x.valueAt(2, 2));
    }

    private static void valueAtTheEnds() {
        RowTriggers x = new RowTriggers();
        x.insert(0, 0, 1, 999);
        x.insert(5, 999, 998, 0);
        String values = "";
        for (int column = 0; column < 3; column++) {
            values += x.valueAt(0, column) + " " + x.valueAt(5, column) + " ";
        }
        Check.same("15: the first row and the last one", values, "0 999 1 998 999 0 ");
    }

    /** "Returns the sum of a column over all rows that are there." */
    private static void sumOverRowsThatAreThere() {
        RowTriggers x = new RowTriggers();
        for (int column = 0; column < 3; column++) {
            int place = column;
            Check.due("16: of no rows", () -> x.sumOf(place), 0);
        }
        for (int row = 0; row < 6; row++) {
            x.insert(row, 999, row, 0);
        }
        Check.due("16: the greatest sum", () -> x.sumOf(0), 5994);
        Check.due("16: another one", () -> x.sumOf(1), 15);
        Check.due("16: the least one", () -> x.sumOf(2), 0);
        x.remove(5);
        Check.due("16: without a row that is taken out", () -> x.sumOf(0), 4995);
        x.addRule(RowTriggers.UPDATE, 2, 0);
        x.setAction(0, RowTriggers.TAKE, 4, 0, 0);
        x.update(0, 2, 1);
        Check.due("16: without a row that a rule takes out", () -> x.sumOf(1), 6);
        Check.due("16: with what was changed", () -> x.sumOf(2), 1);
    }

    /** "Returns how many rows are there.": from none to all and back */
    private static void rowsFromNoneToAll() {
        RowTriggers x = new RowTriggers();
        for (int row = 0; row < 6; row++) {
            Check.due("14: rows", x::rowCount, row);
            x.insert(row, 0, 0, 0);
        }
        Check.due("14: all rows", x::rowCount, 6);
        for (int row = 0; row < 6; row++) {
            x.remove(row);
            Check.due("14: rows", x::rowCount, 5 - row);
        }
    }

    /** "Returns how many rules there are.": from none to all and back; muted ones count */
    private static void rulesFromNoneToAll() {
        RowTriggers x = new RowTriggers();
        for (int rule = 0; rule < 8; rule++) {
            Check.due("17: rules", x::ruleCount, rule);
            x.addRule(0, 0, 0);
            x.turnMute(rule);
        }
        Check.due("17: all rules", x::ruleCount, 8);
        Check.fails("2: a ninth one", Check.STATE, () -> x.addRule(0, 0, 0));
        Check.due("17: still", x::ruleCount, 8);
        for (int rule = 7; rule >= 0; rule--) {
            x.dropRule(0);
            Check.due("17: rules", x::ruleCount, rule);
        }
    }

    private static RowTriggers withRules(int count) {
        RowTriggers x = new RowTriggers();
        for (int rule = 0; rule < count; rule++) {
            x.addRule(0, 0, 0);
            x.setAction(rule, rule % 4, 0, 0, 0);
        }
        return x;
    }

    /** "Throws IndexOutOfBoundsException if there is no such rule": with none, some, and 8 */
    private static void noSuchRule() {
        for (int rules : new int[] {0, 1, 7, 8}) {
            for (int rule : Check.outside(0, rules - 1)) {
                String what = ": rule " + rule + " of " + rules;
                Check.refused("18" + what, Check.INDEX, () -> withRules(rules), x -> x.actionOf(rule));
                Check.refused("19" + what, Check.INDEX, () -> withRules(rules), x -> Check.number(x.isMuted(rule)));
                Check.refused("20" + what, Check.INDEX, () -> withRules(rules), x -> x.actsOf(rule));
            }
        }
        RowTriggers x = withRules(8);
        Check.due("18: the last one", () -> x.actionOf(7), RowTriggers.TAKE);
        x.dropRule(3);
        Check.due("18: the last one of 7", () -> x.actionOf(6), RowTriggers.TAKE);
        Check.fails("18: no longer", Check.INDEX, () -> x.actionOf(7));
        Check.fails("19: no longer", Check.INDEX, () -> Check.number(x.isMuted(7)));
        Check.fails("20: no longer", Check.INDEX, () -> x.actsOf(7));
    }

    /** "Returns how often a rule has acted.": also if its action made no event, or was NOTHING */
    private static void actsWithoutEvents() {
        for (int action : new int[] {RowTriggers.NOTHING, RowTriggers.ADD, RowTriggers.TAKE}) {
            RowTriggers x = new RowTriggers();
            x.addRule(RowTriggers.UPDATE, 0, 0);
            x.setAction(0, action, 5, 0, 7);
            x.insert(0, 0, 0, 0);
            Check.due("20: never", () -> x.actsOf(0), 0);
            for (int times = 1; times <= 20; times++) {
                int due = times;
                x.update(0, 0, times);
                Check.due("20: times, more than the log holds", () -> x.actsOf(0), due);
            }
            x.setAction(0, RowTriggers.REFUSE, 0, 0, 0);
            Check.fails("8: refused", Check.STATE, () -> x.update(0, 0, 100));
            Check.due("20: to refuse is not to act", () -> x.actsOf(0), 20);
            Check.due("22: nor is it in the log", x::logSize, 16);
            x.undo();
            x.undo();
            Check.due("20: undone", () -> x.actsOf(0), 19);
        }
    }

    /** "Returns how many events happened so far." */
    private static void eventsThatHappened() {
        RowTriggers x = new RowTriggers();
        Check.due("21: none", x::eventCount, 0);
        Check.fails("9: nothing there", Check.STATE, () -> x.remove(0));
        Check.due("21: none by what is refused", x::eventCount, 0);
        x.insert(0, 0, 0, 0);
        Check.due("21: an INSERT", x::eventCount, 1);
        x.update(0, 0, 0);
        Check.due("21: no change", x::eventCount, 1);
        x.whyNotUpdate(0, 0, 1);
        x.eventsOfUpdate(0, 0, 1);
        x.depthOfUpdate(0, 0, 1);
        Check.due("21: none by what is told", x::eventCount, 1);
        x.update(0, 0, 1);
        Check.due("21: an UPDATE", x::eventCount, 2);
        x.remove(0);
        Check.due("21: a DELETE", x::eventCount, 3);
        x.undo();
        Check.due("21: undone", x::eventCount, 2);
    }

    /** As many acts as are given: the one number i, from 1 on, is by rule i % 3, at the depth 0. */
    private static RowTriggers withActs(int acts) {
        RowTriggers x = new RowTriggers();
        x.insert(0, 0, 0, 0);
        for (int column = 0; column < 3; column++) {
            x.addRule(RowTriggers.UPDATE, column, 0);
        }
        for (int act = 1; act <= acts; act++) {
            x.update(0, act % 3, act);
        }
        return x;
    }

    /** "Throws IndexOutOfBoundsException if there are not so many" */
    private static void notSoManyActs() {
        for (int acts : new int[] {0, 1, 2, 15, 16, 17, 40}) {
            int size = Math.min(acts, 16);
            for (int ago : Check.outside(0, size - 1)) {
                String what = ": " + ago + " ago of " + acts;
                Check.refused("23" + what, Check.INDEX, () -> withActs(acts), x -> x.loggedRule(ago));
                Check.refused("24" + what, Check.INDEX, () -> withActs(acts), x -> x.loggedDepth(ago));
            }
        }
    }

    /** "the latest ones, at most 16" */
    private static void atMostSixteen() {
        for (int acts = 0; acts <= 35; acts++) {
            int due = Math.min(acts, 16);
            RowTriggers x = withActs(acts);
            Check.due("22: after " + acts, x::logSize, due);
        }
    }

    /** "ago: 0 for the latest one" */
    private static void latestOnes() {
        for (int acts = 0; acts <= 35; acts++) {
            RowTriggers x = withActs(acts);
            for (int ago = 0; ago < Math.min(acts, 16); ago++) {
                int place = ago;
                int act = acts - ago;
                Check.due("23: " + ago + " ago of " + acts, () -> x.loggedRule(place), act % 3);
                Check.due("24: " + ago + " ago of " + acts, () -> x.loggedDepth(place), 0);
            }
        }
        depthsOfMany();
    }

    /** In each update rule 1 acts at the depth 0, then rule 0 at the depth 1. */
    private static void depthsOfMany() {
        for (int updates = 1; updates <= 10; updates++) {
            RowTriggers x = new RowTriggers();
            x.insert(0, 0, 0, 0);
            x.addRule(RowTriggers.UPDATE, 1, 0);
            x.addRule(RowTriggers.UPDATE, 0, 0);
            x.setAction(1, RowTriggers.ADD, 0, 1, 1);
            for (int value = 1; value <= updates; value++) {
                x.update(0, 0, value);
            }
            for (int ago = 0; ago < Math.min(2 * updates, 16); ago++) {
                int place = ago;
                Check.due("23: " + ago + " ago of twice " + updates, () -> x.loggedRule(place), place % 2);
                Check.due("24: " + ago + " ago of twice " + updates, () -> x.loggedDepth(place), 1 - place % 2);
            }
        }
    }

    private static void lookingChangesNothing() {
        RowTriggers x = oneRow();
        String before = Check.wholePictureOf(x);
        Check.same("13 to 24 change nothing", Check.wholePictureOf(x), before);
        Check.due("35: nor are they changes", x::undoCount, 6);
    }
}
