/** Promises 7 to 12: statements, what follows from them, and what is told of an update ahead of it. */
public final class StatementsTest {
    public static void main(String[] args) {
        insert();
        update();
        remove();
        matching();
        matchingIsToldByTheEvent();
        actions();
        refusals();
        hundredAndFirstAndMore();
        sumFirst();
        depthBeforeRule();
        tellingChangesNothing();
        Check.end();
    }

    private static void insert() {
        RowTriggers x = new RowTriggers();
        Check.due("7: one event", () -> x.insert(5, 0, 999, 7), 1);
        Check.due("7: is a change", x::undoCount, 1);
        Check.due("7: first value", () -> x.valueAt(5, 0), 0);
        Check.due("7: second value", () -> x.valueAt(5, 1), 999);
        Check.due("7: third value", () -> x.valueAt(5, 2), 7);
        Check.failsAndKeeps(x, "7: it is there", Check.STATE, () -> x.insert(5, 1, 1, 1));
    }

    private static void update() {
        RowTriggers x = new RowTriggers();
        x.insert(0, 1, 2, 3);
        Check.failsAndKeeps(x, "8: not there", Check.STATE, () -> x.update(1, 0, 0));
        Check.due("8: one event", () -> x.update(0, 1, 999), 1);
        Check.due("8: the value", () -> x.valueAt(0, 1), 999);
        Check.due("8: the other values", () -> x.valueAt(0, 0) + x.valueAt(0, 2), 4);
        Check.due("8: the same value", () -> x.update(0, 1, 999), 0);
        Check.due("8: a change also if no event happens", x::undoCount, 3);
        Check.due("8: no event", x::eventCount, 2);
        x.addRule(RowTriggers.UPDATE, 1, 0);
        x.setAction(0, RowTriggers.REFUSE, 0, 0, 0);
        Check.due("8: no event, so none is refused", () -> x.update(0, 1, 999), 0);
        Check.failsAndKeeps(x, "8: refused", Check.STATE, () -> x.update(0, 1, 998));
    }

    private static void remove() {
        RowTriggers x = new RowTriggers();
        x.insert(0, 1, 2, 3);
        Check.failsAndKeeps(x, "9: not there", Check.STATE, () -> x.remove(1));
        Check.due("9: one event", () -> x.remove(0), 1);
        Check.due("9: is a change", x::undoCount, 2);
        Check.due("9: gone", x.hasRow(0), false);
        Check.failsAndKeeps(x, "9: gone already", Check.STATE, () -> x.remove(0));
        x.insert(0, 4, 5, 6);
        Check.due("9: the values of the new row", () -> x.valueAt(0, 2), 6);
        x.addRule(RowTriggers.DELETE, 2, 6);
        x.setAction(0, RowTriggers.REFUSE, 0, 0, 0);
        Check.failsAndKeeps(x, "9: refused", Check.STATE, () -> x.remove(0));
    }

    private static void matching() {
        for (int event = 0; event < 3; event++) {
            RowTriggers x = new RowTriggers();
            for (int column = 0; column < 3; column++) {
                x.addRule(event, column, 10);
                x.addRule(event, column, 11);
            }
            x.insert(0, 9, 10, 11);
            Check.same("matching of INSERT by rules of " + event, actsOf(x), event == 0 ? "001011" : "000000");
            x.update(0, 0, 10);
            Check.same("matching of UPDATE by rules of " + event, actsOf(x),
                    event == 0 ? "001011" : event == 1 ? "100000" : "000000");
            x.update(0, 2, 9);
            Check.same("matching of UPDATE by its own value", actsOf(x),
                    event == 0 ? "001011" : event == 1 ? "100000" : "000000");
            x.remove(0);
            Check.same("matching of DELETE by rules of " + event, actsOf(x),
                    event == 0 ? "001011" : event == 1 ? "100000" : "101000");
        }
    }

    private static String actsOf(RowTriggers x) {
        StringBuilder s = new StringBuilder();
        for (int rule = 0; rule < x.ruleCount(); rule++) {
            s.append(x.actsOf(rule));
        }
        return s.toString();
    }

    /** The first rule changes what the second one watches; the second one acts all the same. */
    private static void matchingIsToldByTheEvent() {
        RowTriggers x = new RowTriggers();
        x.addRule(RowTriggers.INSERT, 0, 50);
        x.setAction(0, RowTriggers.ADD, 0, 0, -50);
        x.addRule(RowTriggers.INSERT, 0, 50);
        x.addRule(RowTriggers.INSERT, 1, 1);
        x.addRule(RowTriggers.INSERT, 0, 50);
        x.setAction(3, RowTriggers.TAKE, 0, 0, 0);
        x.addRule(RowTriggers.INSERT, 0, 0);
        x.setAction(4, RowTriggers.ADD, 0, 1, 1);
        Check.due("all that matched act", () -> x.insert(0, 50, 0, 0), 3);
        Check.same("those that did not match then do not", actsOf(x), "11011");
        Check.due("an ADD to a row that is gone is nothing", x.hasRow(0), false);
    }

    private static void actions() {
        RowTriggers x = new RowTriggers();
        x.addRule(RowTriggers.UPDATE, 0, 0);
        x.insert(0, 0, 0, 0);
        x.insert(1, 500, 500, 500);
        x.setAction(0, RowTriggers.ADD, 1, 2, 499);
        Check.due("ADD to 999", () -> x.update(0, 0, 1), 2);
        Check.due("is 999", () -> x.valueAt(1, 2), 999);
        x.setAction(0, RowTriggers.ADD, 1, 2, -999);
        Check.due("ADD to 0", () -> x.update(0, 0, 2), 2);
        Check.due("is 0", () -> x.valueAt(1, 2), 0);
        x.setAction(0, RowTriggers.ADD, 1, 2, -1);
        Check.failsAndKeeps(x, "ADD below 0", Check.STATE, () -> x.update(0, 0, 3));
        Check.due("is no sum", () -> x.whyNotUpdate(0, 0, 3), 2);
        x.setAction(0, RowTriggers.ADD, 1, 2, 0);
        Check.due("ADD of 0 is no event", () -> x.update(0, 0, 3), 1);
        Check.due("but an act", () -> x.actsOf(0), 3);
        x.setAction(0, RowTriggers.ADD, 2, 2, 999);
        Check.due("ADD to no row is no event", () -> x.update(0, 0, 4), 1);
        x.setAction(0, RowTriggers.TAKE, 2, 0, 0);
        Check.due("TAKE of no row is no event", () -> x.update(0, 0, 5), 1);
        x.setAction(0, RowTriggers.TAKE, 1, 0, 0);
        Check.due("TAKE", () -> x.update(0, 0, 6), 2);
        Check.due("takes the row", x.hasRow(1), false);
        x.setAction(0, RowTriggers.TAKE, 0, 0, 0);
        Check.due("TAKE of its own row", () -> x.update(0, 0, 7), 2);
        Check.due("no row is left", x::rowCount, 0);
        Check.due("every act counts", () -> x.actsOf(0), 7);
        Check.due("and all are in the log", x::logSize, 7);
    }

    private static void refusals() {
        RowTriggers x = new RowTriggers();
        x.addRule(RowTriggers.UPDATE, 0, 0);
        x.addRule(RowTriggers.UPDATE, 0, 5);
        x.setAction(1, RowTriggers.REFUSE, 0, 0, 0);
        x.addRule(RowTriggers.INSERT, 0, 0);
        x.setAction(2, RowTriggers.ADD, 1, 0, 3);
        x.insert(1, 0, 0, 0);
        Check.due("10: no row", () -> x.whyNotUpdate(0, 0, 1), 1);
        Check.due("10: no row, whatever the rules say", () -> x.whyNotUpdate(0, 0, 5), 1);
        Check.due("11: no row", () -> x.eventsOfUpdate(0, 0, 1), -1);
        Check.due("12: no row", () -> x.depthOfUpdate(0, 0, 1), -1);
        Check.due("10: possible", () -> x.whyNotUpdate(1, 0, 4), 0);
        Check.due("11: possible", () -> x.eventsOfUpdate(1, 0, 4), 1);
        Check.due("12: possible", () -> x.depthOfUpdate(1, 0, 4), 0);
        Check.due("10: refused by a rule behind one that acts", () -> x.whyNotUpdate(1, 0, 5), 5);
        Check.due("11: refused", () -> x.eventsOfUpdate(1, 0, 5), -1);
        Check.due("12: refused", () -> x.depthOfUpdate(1, 0, 5), -1);
        Check.due("10: no change", () -> x.whyNotUpdate(1, 0, 3), 0);
        Check.due("11: no change", () -> x.eventsOfUpdate(1, 0, 3), 0);
        Check.due("12: no event has no depth", () -> x.depthOfUpdate(1, 0, 3), -1);
        Check.failsAndKeeps(x, "an event that follows is refused, so all is", Check.STATE, () -> x.insert(0, 0, 0, 0));
    }

    /** Each update of a row makes one of each row below it: the farther up, the deeper, and twice as many a step. */
    static RowTriggers staircase() {
        RowTriggers x = new RowTriggers();
        for (int row = 0; row < 6; row++) {
            x.insert(row, 900 - 100 * row, 0, 0);
        }
        for (int row = 1; row < 6; row++) {
            x.addRule(RowTriggers.UPDATE, 0, 950 - 100 * row);
            x.setAction(row - 1, RowTriggers.ADD, row, 0, 1);
        }
        return x;
    }

    /** Rows 0 to 5 stand in bands of values; a rule adds to a row when a row above it changes. */
    private static RowTriggers bands(int[] lastValues, int[][] rules) {
        RowTriggers x = new RowTriggers();
        for (int row = 0; row < 6; row++) {
            x.insert(row, row < 4 ? 900 - 200 * row + (row == 0 ? 0 : 100) : lastValues[row - 4], 0, 0);
        }
        x.setDepth(5);
        for (int[] rule : rules) {
            int number = x.addRule(RowTriggers.UPDATE, 0, rule[0]);
            x.setAction(number, RowTriggers.ADD, rule[1], 0, rule[2]);
        }
        return x;
    }

    /** As many events as eight rules can make in bands, less those that row 4 no longer sets off. */
    static RowTriggers falling(int leastForLast, int lastValue) {
        return bands(new int[] {100, lastValue}, new int[][] {
            {900, 1, -1}, {900, 1, -1}, {700, 2, -1}, {700, 2, -1}, {500, 3, -1}, {500, 3, -1},
            {300, 4, -1}, {leastForLast, 5, -1}});
    }

    private static void hundredAndFirstAndMore() {
        RowTriggers x = falling(80, 47);
        Check.due("10: the 101st event, its sum is 0", () -> x.whyNotUpdate(0, 0, 950), 4);
        RowTriggers y = falling(80, 46);
        Check.due("10: the 101st event, its sum is -1", () -> y.whyNotUpdate(0, 0, 950), 2);
        int[][] rising = {{101, 5, 1}, {300, 4, 1}, {500, 3, 1}, {500, 3, 1}, {700, 2, 1}, {700, 2, 1},
            {900, 1, 1}, {900, 1, 1}};
        RowTriggers z = bands(new int[] {96, 52}, rising);
        Check.due("10: the 101st event, not too deep", () -> z.whyNotUpdate(0, 0, 950), 4);
        RowTriggers w = bands(new int[] {96, 53}, rising);
        Check.due("10: the 101st event, too deep", () -> w.whyNotUpdate(0, 0, 950), 3);
        refusedByRuleToo();
    }

    /** Seven rules, found by a search, that make more than 100 events; only the 101st gives column 2 the value 761. */
    private static void refusedByRuleToo() {
        RowTriggers x = new RowTriggers();
        x.insert(0, 489, 867, 976);
        x.insert(1, 328, 494, 139);
        x.insert(2, 907, 617, 732);
        x.insert(3, 866, 963, 649);
        x.insert(4, 366, 981, 138);
        x.insert(5, 997, 798, 855);
        x.setDepth(5);
        int[][] rules = {{0, 320, 0, 1, 1}, {1, 320, 2, 2, 1}, {0, 28, 2, 1, -2}, {0, 362, 4, 0, -2},
            {0, 362, 4, 0, 1}, {1, 28, 3, 2, -2}, {0, 830, 3, 0, 1}};
        for (int[] rule : rules) {
            int number = x.addRule(RowTriggers.UPDATE, rule[0], rule[1]);
            x.setAction(number, RowTriggers.ADD, rule[2], rule[3], rule[4]);
        }
        Check.due("10: the 101st event", () -> x.whyNotUpdate(5, 0, 872), 4);
        x.addRule(RowTriggers.UPDATE, 2, 761);
        x.setAction(7, RowTriggers.REFUSE, 0, 0, 0);
        Check.due("10: the 101st event, refused by a rule too", () -> x.whyNotUpdate(5, 0, 872), 4);
        x.dropRule(7);
        x.addRule(RowTriggers.UPDATE, 2, 760);
        x.setAction(7, RowTriggers.REFUSE, 0, 0, 0);
        Check.due("10: an earlier event, refused by a rule", () -> x.whyNotUpdate(5, 0, 872), 5);
    }

    private static void sumFirst() {
        RowTriggers x = new RowTriggers();
        x.insert(0, 0, 0, 0);
        x.addRule(RowTriggers.UPDATE, 0, 0);
        x.setAction(0, RowTriggers.ADD, 0, 1, 999);
        x.setDepth(0);
        Check.due("10: too deep", () -> x.whyNotUpdate(0, 0, 1), 3);
        x.update(0, 1, 1);
        Check.due("10: no sum, and too deep", () -> x.whyNotUpdate(0, 0, 1), 2);
        x.addRule(RowTriggers.UPDATE, 1, 0);
        x.setAction(1, RowTriggers.REFUSE, 0, 0, 0);
        Check.due("10: no sum, too deep, and refused", () -> x.whyNotUpdate(0, 0, 1), 2);
        x.setAction(0, RowTriggers.ADD, 0, 1, 0);
        Check.due("10: no event, so not too deep", () -> x.whyNotUpdate(0, 0, 1), 0);
        x.setAction(0, RowTriggers.TAKE, 1, 0, 0);
        Check.due("10: no row, so not too deep", () -> x.whyNotUpdate(0, 0, 1), 0);
        x.setAction(0, RowTriggers.TAKE, 0, 0, 0);
        Check.due("10: a TAKE too deep", () -> x.whyNotUpdate(0, 0, 1), 3);
        x.setDepth(1);
        Check.due("10: a TAKE not too deep", () -> x.whyNotUpdate(0, 0, 1), 0);
        Check.due("12: a TAKE", () -> x.depthOfUpdate(0, 0, 1), 1);
    }

    private static void depthBeforeRule() {
        RowTriggers x = new RowTriggers();
        x.insert(0, 0, 0, 0);
        x.addRule(RowTriggers.UPDATE, 0, 0);
        x.setAction(0, RowTriggers.ADD, 0, 1, 1);
        x.addRule(RowTriggers.UPDATE, 1, 0);
        x.setAction(1, RowTriggers.REFUSE, 0, 0, 0);
        Check.due("10: refused", () -> x.whyNotUpdate(0, 0, 1), 5);
        x.setDepth(0);
        Check.due("10: too deep, and refused", () -> x.whyNotUpdate(0, 0, 1), 3);
    }

    private static void tellingChangesNothing() {
        RowTriggers x = staircase();
        x.setDepth(5);
        String before = Check.wholePictureOf(x);
        Check.due("11: two events", () -> x.eventsOfUpdate(4, 0, 540), 2);
        Check.due("12: their depth", () -> x.depthOfUpdate(4, 0, 540), 1);
        Check.due("10: possible", () -> x.whyNotUpdate(4, 0, 540), 0);
        Check.same("10 to 12 change nothing", Check.wholePictureOf(x), before);
        Check.due("8: as told", () -> x.update(4, 0, 540), 2);
        Check.due("8: and done", () -> x.valueAt(5, 0), 401);
    }
}
