/** Promises 7 to 12, and the terms on statements: each sentence that names a boundary case, with a test of its own. */
public final class StatementsEdgesTest {
    public static void main(String[] args) {
        rowOfInsert();
        valuesOfInsert();
        insertWhereARowIs();
        insertOnceMore();
        insertRefused();
        placeOfUpdate();
        valueOfUpdate();
        updateWithoutRow();
        updateToTheSame();
        updateRefused();
        rowOfRemove();
        removeWithoutRow();
        removeRefused();
        firstOfTheThrowsClause();
        whatIsToldOfWrongPlaces();
        whyNot();
        firstReason();
        eventThatIsRefusedFirst();
        noneIfNotPossible();
        depthNoneIfNoEvent();
        refusersAreLookedAtFirst();
        sumsAtTheEnds();
        addOfNothing();
        addWithoutRow();
        takeWithoutRow();
        toldByTheValuesAtIt();
        finishedBeforeTheNext();
        depthOfTheEvent();
        greaterThanTheGreatest();
        greatestDepthOfEachStatement();
        hundredEvents();
        hundredOfEachStatement();
        noTraceOfWhatIsRefused();
        eachIsAChange();
        Check.end();
    }

    /** Rows 0 and 5, and rules of each kind of which none acts at once. */
    private static RowTriggers twoRows() {
        RowTriggers x = new RowTriggers();
        x.insert(0, 1, 2, 3);
        x.insert(5, 999, 0, 500);
        x.addRule(RowTriggers.INSERT, 0, 700);
        x.addRule(RowTriggers.UPDATE, 1, 700);
        x.addRule(RowTriggers.DELETE, 0, 999);
        x.saveState(0);
        return x;
    }

    /** A rule of each event with one action; each acts, or refuses, from the value 700 on in column 0. */
    private static RowTriggers withRules(int action, int row, int amount) {
        RowTriggers x = new RowTriggers();
        x.insert(0, 1, 2, 3);
        x.insert(1, 700, 7, 9);
        for (int event = 0; event < 3; event++) {
            x.addRule(event, 0, 700);
            x.setAction(event, action, row, 1, amount);
        }
        return x;
    }

    /** "Throws IndexOutOfBoundsException if there is no such row"; "Rows are 0 to 5" */
    private static void rowOfInsert() {
        for (int row : Check.outside(0, 5)) {
            Check.refused("7: row " + row, Check.INDEX, StatementsEdgesTest::twoRows, x -> x.insert(row, 1, 1, 1));
        }
        RowTriggers x = new RowTriggers();
        for (int row = 0; row < 6; row++) {
            int number = row;
            Check.due("7: row " + row, () -> x.insert(number, number, 999 - number, 0), 1);
            Check.due("7: row " + row + " is there", x.hasRow(row), true);
        }
        Check.due("7: all rows", x::rowCount, 6);
    }

    /** "Throws IllegalArgumentException if a value is out of range"; "values 0 to 999" */
    private static void valuesOfInsert() {
        for (int value : Check.outside(0, 999)) {
            Check.refused("7: first " + value, Check.ARGUMENT, StatementsEdgesTest::twoRows, x -> x.insert(1, value, 1, 1));
            Check.refused("7: second " + value, Check.ARGUMENT, StatementsEdgesTest::twoRows, x -> x.insert(1, 1, value, 1));
            Check.refused("7: third " + value, Check.ARGUMENT, StatementsEdgesTest::twoRows, x -> x.insert(1, 1, 1, value));
        }
        for (int column = 0; column < 3; column++) {
            RowTriggers x = new RowTriggers();
            int place = column;
            x.insert(0, column == 0 ? 999 : 0, column == 1 ? 999 : 0, column == 2 ? 999 : 0);
            for (int other = 0; other < 3; other++) {
                int at = other;
                Check.due("7: column " + other, () -> x.valueAt(0, at), at == place ? 999 : 0);
            }
        }
    }

    /** "Throws IllegalStateException if the row is there" */
    private static void insertWhereARowIs() {
        Check.refused("7: row 0 is there", Check.STATE, StatementsEdgesTest::twoRows, x -> x.insert(0, 4, 5, 6));
        Check.refused("7: row 5 is there", Check.STATE, StatementsEdgesTest::twoRows, x -> x.insert(5, 4, 5, 6));
        Check.refused("7: with the same values", Check.STATE, StatementsEdgesTest::twoRows, x -> x.insert(0, 1, 2, 3));
    }

    /** "INSERT puts a row in that is not there": also one that was there once */
    private static void insertOnceMore() {
        RowTriggers x = twoRows();
        x.remove(5);
        Check.due("7: once more", () -> x.insert(5, 0, 1, 2), 1);
        Check.same("7: its values", x.valueAt(5, 0) + "," + x.valueAt(5, 1) + "," + x.valueAt(5, 2), "0,1,2");
    }

    /** "or the statement is refused": by a rule, or by what follows */
    private static void insertRefused() {
        Check.refused("7: by a rule", Check.STATE, () -> withRules(RowTriggers.REFUSE, 0, 0), x -> x.insert(2, 700, 0, 0));
        Check.refused("7: by a sum", Check.STATE, () -> withRules(RowTriggers.ADD, 0, -3), x -> x.insert(2, 700, 0, 0));
        Check.due("7: one less is not refused", () -> withRules(RowTriggers.REFUSE, 0, 0).insert(2, 699, 0, 0), 1);
        Check.due("7: nor a sum of 0", () -> withRules(RowTriggers.ADD, 0, -2).insert(2, 700, 0, 0), 2);
    }

    /** "Throws IndexOutOfBoundsException if there is no such row or column" */
    private static void placeOfUpdate() {
        for (int row : Check.outside(0, 5)) {
            Check.refused("8: row " + row, Check.INDEX, StatementsEdgesTest::twoRows, x -> x.update(row, 0, 1));
        }
        for (int column : Check.outside(0, 2)) {
            Check.refused("8: column " + column, Check.INDEX, StatementsEdgesTest::twoRows, x -> x.update(0, column, 1));
        }
        RowTriggers x = twoRows();
        Check.due("8: first row and column", () -> x.update(0, 0, 0), 1);
        Check.due("8: last row and column", () -> x.update(5, 2, 999), 1);
        Check.same("8: both", Check.pictureOf(x).replaceAll(" rules.*", ""),
                "rows 2 true,0,2,3 false false false false true,999,0,999");
    }

    /** "Throws IllegalArgumentException if value is out of range" */
    private static void valueOfUpdate() {
        for (int value : Check.outside(0, 999)) {
            Check.refused("8: value " + value, Check.ARGUMENT, StatementsEdgesTest::twoRows, x -> x.update(0, 0, value));
        }
        RowTriggers x = twoRows();
        Check.due("8: 999", () -> x.update(0, 0, 999) * 1000 + x.valueAt(0, 0), 1999);
        Check.due("8: 0", () -> x.update(0, 0, 0) * 1000 + x.valueAt(0, 0), 1000);
    }

    /** "Throws IllegalStateException if the row is not there" */
    private static void updateWithoutRow() {
        for (int row = 1; row < 5; row++) {
            int number = row;
            Check.refused("8: row " + row, Check.STATE, StatementsEdgesTest::twoRows, x -> x.update(number, 0, 1));
        }
        RowTriggers x = twoRows();
        x.remove(0);
        Check.fails("8: a row that was there", Check.STATE, () -> x.update(0, 0, 1));
        Check.fails("8: a row that was there, to the value it had", Check.STATE, () -> x.update(0, 0, 2));
    }

    /** "This is a change, also if no event happens."; "Giving a column the value that it has is no change and no event." */
    private static void updateToTheSame() {
        RowTriggers x = new RowTriggers();
        x.insert(0, 0, 999, 5);
        x.addRule(RowTriggers.UPDATE, 1, 0);
        x.addRule(RowTriggers.UPDATE, 0, 0);
        x.setAction(1, RowTriggers.REFUSE, 0, 0, 0);
        Check.due("8: no event", () -> x.update(0, 1, 999), 0);
        Check.due("8: but a change", x::undoCount, 5);
        Check.due("8: no rule refuses it", () -> x.update(0, 0, 0), 0);
        Check.due("8: a change, too", x::undoCount, 6);
        Check.due("21: no events", x::eventCount, 1);
        Check.due("22: no acts", x::logSize, 0);
        Check.due("10: possible", () -> x.whyNotUpdate(0, 0, 0), 0);
        Check.due("11: no events", () -> x.eventsOfUpdate(0, 0, 0), 0);
        x.undo();
        x.undo();
        Check.due("34: each undone", x::undoCount, 4);
    }

    /** "or the statement is refused" */
    private static void updateRefused() {
        Check.refused("8: by a rule", Check.STATE, () -> withRules(RowTriggers.REFUSE, 0, 0), x -> x.update(0, 0, 700));
        Check.refused("8: by a sum", Check.STATE, () -> withRules(RowTriggers.ADD, 1, 993), x -> x.update(0, 0, 700));
        Check.due("8: one less is not refused", () -> withRules(RowTriggers.REFUSE, 0, 0).update(0, 0, 699), 1);
        Check.due("8: nor a sum of 999", () -> withRules(RowTriggers.ADD, 1, 992).update(0, 0, 700), 2);
    }

    /** "Throws IndexOutOfBoundsException if there is no such row" */
    private static void rowOfRemove() {
        for (int row : Check.outside(0, 5)) {
            Check.refused("9: row " + row, Check.INDEX, StatementsEdgesTest::twoRows, x -> x.remove(row));
        }
        RowTriggers x = twoRows();
        Check.due("9: the first row", () -> x.remove(0), 1);
        Check.due("9: the last row", () -> x.remove(5), 1);
        Check.due("14: no rows", x::rowCount, 0);
    }

    /** "Throws IllegalStateException if the row is not there" */
    private static void removeWithoutRow() {
        for (int row = 1; row < 5; row++) {
            int number = row;
            Check.refused("9: row " + row, Check.STATE, StatementsEdgesTest::twoRows, x -> x.remove(number));
        }
        RowTriggers x = twoRows();
        x.remove(5);
        Check.fails("9: once more", Check.STATE, () -> x.remove(5));
        Check.refused("9: out of an empty table", Check.STATE, RowTriggers::new, y -> y.remove(0));
    }

    /** "or the statement is refused" */
    private static void removeRefused() {
        Check.refused("9: by a rule", Check.STATE, () -> withRules(RowTriggers.REFUSE, 0, 0), x -> x.remove(1));
        Check.refused("9: by a sum", Check.STATE, () -> withRules(RowTriggers.ADD, 0, 998), x -> x.remove(1));
        Check.due("9: one less is not refused", () -> withRules(RowTriggers.REFUSE, 0, 0).remove(0), 1);
        Check.due("9: a sum for the row itself, which is gone", () -> withRules(RowTriggers.ADD, 1, -999).remove(1), 1);
    }

    /** "if several exceptions apply, the first one of the throws clause is thrown" */
    private static void firstOfTheThrowsClause() {
        RowTriggers x = withRules(RowTriggers.REFUSE, 0, 0);
        Check.fails("7: no row, and a value", Check.INDEX, () -> x.insert(6, 1000, 0, 0));
        Check.fails("7: a value, and the row is there", Check.ARGUMENT, () -> x.insert(0, 0, 0, 1000));
        Check.fails("7: a value, and refused", Check.ARGUMENT, () -> x.insert(2, 700, -1, 0));
        Check.fails("8: no row, and a value", Check.INDEX, () -> x.update(-1, 0, 1000));
        Check.fails("8: no column, and a value", Check.INDEX, () -> x.update(0, 3, 1000));
        Check.fails("8: no column, and no row there", Check.INDEX, () -> x.update(3, -1, 0));
        Check.fails("8: a value, and no row there", Check.ARGUMENT, () -> x.update(3, 0, 1000));
        Check.due("35: none of them is a change", x::undoCount, 6);
        x.undo();
    }

    private static void whatIsToldOfWrongPlaces() {
        for (int row : Check.outside(0, 5)) {
            toldWrong("row " + row, Check.INDEX, row, 0, 1);
            toldWrong("row, and value " + row, Check.INDEX, row, 0, 1000);
        }
        for (int column : Check.outside(0, 2)) {
            toldWrong("column " + column, Check.INDEX, 0, column, 1);
            toldWrong("column, and value " + column, Check.INDEX, 0, column, -1);
            toldWrong("no row there, and column " + column, Check.INDEX, 1, column, 1);
        }
        for (int value : Check.outside(0, 999)) {
            toldWrong("value " + value, Check.ARGUMENT, 0, 0, value);
            toldWrong("no row there, and value " + value, Check.ARGUMENT, 1, 0, value);
        }
    }

    private static void toldWrong(String what, String exception, int row, int column, int value) {
        Check.refused("10: " + what, exception, StatementsEdgesTest::twoRows, x -> x.whyNotUpdate(row, column, value));
        Check.refused("11: " + what, exception, StatementsEdgesTest::twoRows, x -> x.eventsOfUpdate(row, column, value));
        Check.refused("12: " + what, exception, StatementsEdgesTest::twoRows, x -> x.depthOfUpdate(row, column, value));
    }

    /** Compares all that is told of an update, and then what update() does. */
    private static void told(String what, RowTriggers x, int row, int column, int value, int why, int events, int depth) {
        String before = Check.wholePictureOf(x);
        Check.due("10: " + what, () -> x.whyNotUpdate(row, column, value), why);
        Check.due("11: " + what, () -> x.eventsOfUpdate(row, column, value), events);
        Check.due("12: " + what, () -> x.depthOfUpdate(row, column, value), depth);
        Check.same("10 to 12 change nothing: " + what, Check.wholePictureOf(x), before);
        Check.same("8: " + what, Check.outcome(() -> x.update(row, column, value)),
                why == 0 ? Integer.toString(events) : Check.STATE);
    }

    /** Rule 0 adds to a column of row 1 when column 0 of row 0 changes; rule 1 refuses 700 in column 1, or more. */
    private static RowTriggers adding(int amount, int depth) {
        RowTriggers x = new RowTriggers();
        x.insert(0, 0, 0, 0);
        x.insert(1, 0, 500, 0);
        x.addRule(RowTriggers.UPDATE, 0, 1);
        x.setAction(0, RowTriggers.ADD, 1, 1, amount);
        x.addRule(RowTriggers.UPDATE, 1, 700);
        x.setAction(1, RowTriggers.REFUSE, 0, 0, 0);
        x.setDepth(depth);
        return x;
    }

    /** "1 the row is not there; ... 2 its sum is not 0 to 999; 3 its depth is too great; ... 5 a rule refuses it; 0" */
    private static void whyNot() {
        told("no row", adding(1, 3), 2, 0, 1, 1, -1, -1);
        told("sum of 1000", adding(500, 3), 0, 0, 1, 2, -1, -1);
        told("sum of -1", adding(-501, 3), 0, 0, 1, 2, -1, -1);
        told("sum of 0", adding(-500, 3), 0, 0, 1, 0, 2, 1);
        told("too deep", adding(1, 0), 0, 0, 1, 3, -1, -1);
        told("not too deep", adding(1, 1), 0, 0, 1, 0, 2, 1);
        told("700 is refused", adding(200, 3), 0, 0, 1, 5, -1, -1);
        told("699 is not", adding(199, 3), 0, 0, 1, 0, 2, 1);
        told("the first event is refused", adding(1, 3), 0, 1, 700, 5, -1, -1);
        told("nothing follows", adding(1, 0), 0, 0, 0, 0, 0, -1);
        told("one event, at the depth 0", adding(1, 0), 0, 2, 1, 0, 1, 0);
    }

    /** "the first of these that is so of the event" */
    private static void firstReason() {
        told("no row, too deep, refused", adding(200, 0), 3, 1, 700, 1, -1, -1);
        told("no sum, too deep", adding(500, 0), 0, 0, 1, 2, -1, -1);
        told("no sum, and its value would be refused", adding(999, 3), 0, 0, 1, 2, -1, -1);
        told("too deep, and refused by a rule", adding(200, 0), 0, 0, 1, 3, -1, -1);
    }

    /** "of the event that is refused first": the events come in the order in which the rules act */
    private static void eventThatIsRefusedFirst() {
        int[][] amounts = {{1, 999, 2}, {999, 1, 2}, {500, 1, 5}, {1, 500, 5}, {500, 999, 5}, {999, 500, 2}};
        for (int[] amount : amounts) {
            RowTriggers x = new RowTriggers();
            x.insert(0, 0, 1, 1);
            x.addRule(RowTriggers.UPDATE, 0, 0);
            x.setAction(0, RowTriggers.ADD, 0, 1, amount[0]);
            x.addRule(RowTriggers.UPDATE, 0, 0);
            x.setAction(1, RowTriggers.ADD, 0, 2, amount[1]);
            for (int column = 1; column < 3; column++) {
                int rule = x.addRule(RowTriggers.UPDATE, column, 500);
                x.setAction(rule, RowTriggers.REFUSE, 0, 0, 0);
            }
            told("adds of " + amount[0] + " and " + amount[1], x, 0, 0, 1, amount[2], -1, -1);
        }
    }

    /** "NONE if it would not be possible": for each reason; "NONE if it would make none" */
    private static void noneIfNotPossible() {
        RowTriggers x = StatementsTest.falling(80, 70);
        Check.due("11: the 101st event", () -> x.eventsOfUpdate(0, 0, 950), RowTriggers.NONE);
        Check.due("12: the 101st event", () -> x.depthOfUpdate(0, 0, 950), RowTriggers.NONE);
        RowTriggers y = adding(1, 0);
        Check.due("11: too deep", () -> y.eventsOfUpdate(0, 0, 1), RowTriggers.NONE);
        Check.due("12: too deep", () -> y.depthOfUpdate(0, 0, 1), RowTriggers.NONE);
    }

    /** "NONE if it would make none" */
    private static void depthNoneIfNoEvent() {
        RowTriggers x = adding(1, 3);
        Check.due("12: no event", () -> x.depthOfUpdate(1, 1, 500), RowTriggers.NONE);
        Check.due("11: no event", () -> x.eventsOfUpdate(1, 1, 500), 0);
        Check.due("12: one event", () -> x.depthOfUpdate(1, 1, 501), 0);
    }

    /** "first, all rules that match it and have the action REFUSE are looked at: if there is one, the event is refused" */
    private static void refusersAreLookedAtFirst() {
        for (int refuser = 0; refuser < 8; refuser++) {
            RowTriggers x = new RowTriggers();
            x.insert(0, 0, 0, 0);
            for (int rule = 0; rule < 8; rule++) {
                x.addRule(RowTriggers.UPDATE, 0, rule == refuser ? 1 : 0);
                x.setAction(rule, rule == refuser ? RowTriggers.REFUSE : RowTriggers.ADD, 0, 1, 999);
            }
            told("refused by " + refuser + " ahead of sums", x, 0, 0, 1, 5, -1, -1);
        }
    }

    /** "if the sum is not 0 to 999, it is refused" */
    private static void sumsAtTheEnds() {
        int[][] sums = {{0, 999}, {0, -1}, {1, -1}, {1, 998}, {1, 999}, {500, 499}, {500, 500}, {500, -500}, {500, -501},
            {999, 1}, {999, -999}, {999, 999}, {0, -999}, {998, 1}, {998, 2}};
        for (int[] sum : sums) {
            for (int column = 1; column < 3; column++) {
                RowTriggers x = new RowTriggers();
                x.insert(0, 0, sum[0], sum[0]);
                x.addRule(RowTriggers.UPDATE, 0, 0);
                x.setAction(0, RowTriggers.ADD, 0, column, sum[1]);
                int result = sum[0] + sum[1];
                boolean possible = result >= 0 && result <= 999;
                told("sum of " + sum[0] + " and " + sum[1], x, 0, 0, 1, possible ? 0 : 2, possible ? 2 : -1, possible ? 1 : -1);
                int place = column;
                Check.due("8: the sum", () -> x.valueAt(0, place), possible ? result : sum[0]);
                Check.due("20: an act, if it was not refused", () -> x.actsOf(0), possible ? 1 : 0);
            }
        }
    }

    /** "noted in the log, whether or not its action makes an event": an amount of 0 makes none */
    private static void addOfNothing() {
        RowTriggers x = adding(0, 0);
        told("an ADD of 0", x, 0, 0, 1, 0, 1, 0);
        Check.due("20: is an act", () -> x.actsOf(0), 1);
        Check.due("22: is in the log", x::logSize, 1);
        Check.due("23: by its rule", () -> x.loggedRule(0), 0);
        Check.due("24: at the depth of what set it off", () -> x.loggedDepth(0), 0);
        x.update(1, 1, 699);
        Check.due("no UPDATE event, so nothing refuses it", () -> x.update(0, 0, 2), 1);
    }

    /** "if the row is not there, this is nothing" */
    private static void addWithoutRow() {
        for (int amount : new int[] {-999, -1, 0, 1, 999}) {
            RowTriggers x = new RowTriggers();
            x.insert(0, 0, 0, 0);
            x.addRule(RowTriggers.UPDATE, 0, 0);
            x.setAction(0, RowTriggers.ADD, 5, 2, amount);
            x.setDepth(0);
            told("an ADD of " + amount + " to no row", x, 0, 0, 1, 0, 1, 0);
            Check.due("20: is an act", () -> x.actsOf(0), 1);
            Check.due("22: is in the log", x::logSize, 1);
            Check.due("13: makes no row", x.hasRow(5), false);
        }
    }

    /** "a row is taken out; if it is not there, this is nothing" */
    private static void takeWithoutRow() {
        RowTriggers x = new RowTriggers();
        x.insert(0, 0, 0, 0);
        x.insert(5, 0, 0, 0);
        x.addRule(RowTriggers.UPDATE, 0, 0);
        x.setAction(0, RowTriggers.TAKE, 5, 0, 0);
        x.addRule(RowTriggers.UPDATE, 0, 0);
        x.setAction(1, RowTriggers.TAKE, 5, 0, 0);
        told("the second TAKE is nothing", x, 0, 0, 1, 0, 2, 1);
        Check.due("20: but an act", () -> x.actsOf(1), 1);
        x.setDepth(0);
        told("both are nothing, so not too deep", x, 0, 0, 2, 0, 1, 0);
        Check.due("20: but acts", () -> x.actsOf(0) + x.actsOf(1), 4);
        x.setAction(0, RowTriggers.TAKE, 0, 0, 0);
        told("TAKE too deep", x, 0, 0, 3, 3, -1, -1);
        Check.due("13: the row stays", x.hasRow(0), true);
    }

    /** "Whether a rule matches an event is told by the event and the values at it, not by what has changed since." */
    private static void toldByTheValuesAtIt() {
        RowTriggers x = new RowTriggers();
        x.insert(0, 0, 0, 0);
        x.addRule(RowTriggers.UPDATE, 0, 10);
        x.setAction(0, RowTriggers.ADD, 0, 0, -10);
        x.addRule(RowTriggers.UPDATE, 0, 10);
        x.addRule(RowTriggers.UPDATE, 0, 10);
        x.setAction(2, RowTriggers.TAKE, 0, 0, 0);
        x.addRule(RowTriggers.UPDATE, 0, 10);
        x.addRule(RowTriggers.UPDATE, 0, 11);
        told("each acts that matched at the event", x, 0, 0, 10, 0, 3, 1);
        Check.same("20: the acts", "" + x.actsOf(0) + x.actsOf(1) + x.actsOf(2) + x.actsOf(3) + x.actsOf(4), "11110");
        RowTriggers y = new RowTriggers();
        y.addRule(RowTriggers.INSERT, 0, 0);
        y.setAction(0, RowTriggers.ADD, 0, 1, 10);
        y.addRule(RowTriggers.INSERT, 1, 10);
        Check.due("7: what rule 0 adds comes too late for rule 1", () -> y.insert(0, 0, 0, 0), 2);
        Check.due("20: so it does not act", () -> y.actsOf(1), 0);
    }

    /** "finished, with all that follows from it, before the next rule acts"; "in the order of the numbers" */
    private static void finishedBeforeTheNext() {
        RowTriggers x = new RowTriggers();
        x.insert(0, 0, 0, 0);
        x.addRule(RowTriggers.UPDATE, 2, 0);
        x.addRule(RowTriggers.UPDATE, 0, 0);
        x.setAction(1, RowTriggers.ADD, 0, 1, 1);
        x.addRule(RowTriggers.UPDATE, 1, 0);
        x.setAction(2, RowTriggers.ADD, 0, 2, 1);
        x.addRule(RowTriggers.UPDATE, 0, 0);
        x.setAction(3, RowTriggers.ADD, 0, 2, 1);
        x.addRule(RowTriggers.UPDATE, 1, 0);
        x.update(0, 0, 1);
        Check.same("22: from the latest on", Check.pictureOf(x).replaceAll(".* log ", ""), "0@1 3@0 4@1 0@2 2@1 1@0");
    }

    /** A statement of an event, on row 0. */
    private static int statement(RowTriggers x, int event) {
        if (event == RowTriggers.INSERT) {
            return x.insert(0, 0, 0, 0);
        }
        return event == RowTriggers.UPDATE ? x.update(0, 0, 1) : x.remove(0);
    }

    /** A statement of an event makes an UPDATE of row 1, and this one another one of it, at the depth 2. */
    private static RowTriggers threeDeep(int event) {
        RowTriggers x = new RowTriggers();
        x.insert(1, 0, 0, 0);
        if (event != RowTriggers.INSERT) {
            x.insert(0, 0, 0, 0);
        }
        x.addRule(event, 0, 0);
        x.setAction(0, RowTriggers.ADD, 1, 1, 1);
        x.addRule(RowTriggers.UPDATE, 1, 0);
        x.setAction(1, RowTriggers.ADD, 1, 2, 1);
        x.addRule(RowTriggers.UPDATE, 2, 0);
        return x;
    }

    /** "A statement makes an event of the depth 0."; "has a depth that is 1 greater" */
    private static void depthOfTheEvent() {
        for (int event = 0; event < 3; event++) {
            RowTriggers x = threeDeep(event);
            int number = event;
            Check.due("three events of statement " + event, () -> statement(x, number), 3);
            Check.same("24: depths in statement " + event, depthsOf(x), "210");
        }
        RowTriggers taken = new RowTriggers();
        taken.insert(0, 0, 0, 0);
        taken.insert(1, 0, 0, 0);
        taken.addRule(RowTriggers.DELETE, 0, 0);
        taken.setAction(0, RowTriggers.TAKE, 1, 0, 0);
        Check.due("9: a DELETE makes another one", () -> taken.remove(0), 2);
        Check.same("24: depths of DELETEs", depthsOf(taken), "10");
        RowTriggers stairs = StatementsTest.staircase();
        stairs.setDepth(5);
        stairs.update(0, 0, 930);
        Check.same("24: down the stairs", depthsOf(stairs), "0101210121232101");
    }

    private static String depthsOf(RowTriggers x) {
        StringBuilder s = new StringBuilder();
        for (int ago = 0; ago < x.logSize(); ago++) {
            s.append(x.loggedDepth(ago));
        }
        return s.toString();
    }

    /** "An event of a greater depth than the greatest one, 0 to 5, 3 at first, is refused" */
    private static void greaterThanTheGreatest() {
        RowTriggers first = StatementsTest.staircase();
        Check.due("10: 3 at first, so 4 is too deep", () -> first.whyNotUpdate(1, 0, 830), 3);
        Check.due("12: 3 at first, so 3 is not", () -> first.depthOfUpdate(2, 0, 730), 3);
        for (int greatest = 0; greatest <= 5; greatest++) {
            for (int row = 0; row < 6; row++) {
                RowTriggers x = StatementsTest.staircase();
                x.setDepth(greatest);
                int deepest = 5 - row;
                boolean possible = deepest <= greatest;
                told("depth " + deepest + " of " + greatest, x, row, 0, 930 - 100 * row,
                        possible ? 0 : 3, possible ? 1 << deepest : -1, possible ? deepest : -1);
            }
        }
    }

    /** The greatest depth binds insert and remove as well as update. */
    private static void greatestDepthOfEachStatement() {
        for (int event = 0; event < 3; event++) {
            for (int greatest = 0; greatest <= 3; greatest++) {
                RowTriggers x = threeDeep(event);
                x.setDepth(greatest);
                int number = event;
                Check.same("statement " + event + " with the depth " + greatest,
                        Check.outcome(() -> statement(x, number)), greatest >= 2 ? "3" : Check.STATE);
            }
        }
        RowTriggers x = new RowTriggers();
        x.setDepth(0);
        x.addRule(RowTriggers.INSERT, 0, 0);
        Check.due("7: the depth 0 is never too great", () -> x.insert(0, 0, 0, 0), 1);
        Check.due("9: the depth 0 is never too great", () -> x.remove(0), 1);
    }

    /** "so is the 101st event of a statement" */
    private static void hundredEvents() {
        told("99 events", StatementsTest.falling(82, 70), 0, 0, 950, 0, 99, 5);
        told("100 events", StatementsTest.falling(81, 70), 0, 0, 950, 0, 100, 5);
        told("the 101st event", StatementsTest.falling(80, 70), 0, 0, 950, 4, -1, -1);
        told("and still more", StatementsTest.falling(79, 70), 0, 0, 950, 4, -1, -1);
        Check.refused("8: the 101st event", Check.STATE, () -> StatementsTest.falling(80, 70), x -> x.update(0, 0, 950));
        RowTriggers x = StatementsTest.falling(81, 70);
        Check.due("8: 100 events", () -> x.update(0, 0, 950), 100);
        Check.due("21: all are counted", x::eventCount, 106);
        Check.due("8: a hundred does not bind the next statement", () -> x.update(0, 1, 950), 1);
    }

    /** Rows, and rules found by a search, by which much follows from one statement; rule 2 or 6 sets off no other. */
    private static RowTriggers avalanche(int event, int least) {
        RowTriggers x = new RowTriggers();
        boolean inserts = event == RowTriggers.INSERT;
        int[][] rows = inserts
                ? new int[][] {{776, 888, 246}, {746, 164, 210}, {600, 388, 823}, {766, 949, 704}, {999, 294, 610}}
                : new int[][] {{843, 763, 533}, {383, 39, 49}, {69, 406, 958}, {96, 13, 250}, {759, 685, 868}, {961, 108, 118}};
        for (int i = 0; i < rows.length; i++) {
            x.insert((i + 1) % 6, rows[i][0], rows[i][1], rows[i][2]);
        }
        int[][] rules = inserts
                ? new int[][] {{0, 1, 65, 3, 2, 4}, {1, 2, 527, 1, 2, -1}, {1, 2, least, 0, 1, 2}, {1, 2, 727, 3, 2, -95},
                    {1, 2, 588, 1, 2, -1}, {1, 2, 720, 3, 2, 5}, {0, 1, 282, 4, 2, 22}, {1, 2, 719, 3, 2, 39}}
                : new int[][] {{2, 0, 532, 1, 1, 8}, {1, 1, 281, 3, 0, 2}, {1, 1, 399, 3, 1, -3}, {1, 1, 220, 4, 2, -4},
                    {1, 1, 674, 5, 1, -11}, {1, 1, 402, 3, 1, 4}, {1, 1, least, 5, 0, -1}, {1, 1, 673, 5, 1, 6}};
        for (int[] rule : rules) {
            int number = x.addRule(rule[0], rule[1], rule[2]);
            x.setAction(number, RowTriggers.ADD, rule[3], rule[4], rule[5]);
        }
        x.setDepth(5);
        return x;
    }

    /** The 101st event of an insert or a remove is refused as well. */
    private static void hundredOfEachStatement() {
        Check.due("7: 99 events", () -> avalanche(RowTriggers.INSERT, 240).insert(0, 842, 328, 172), 99);
        Check.due("7: 100 events", () -> avalanche(RowTriggers.INSERT, 239).insert(0, 842, 328, 172), 100);
        Check.refused("7: 101 events", Check.STATE, () -> avalanche(RowTriggers.INSERT, 238), x -> x.insert(0, 842, 328, 172));
        Check.refused("7: 102 events", Check.STATE, () -> avalanche(RowTriggers.INSERT, 237), x -> x.insert(0, 842, 328, 172));
        Check.due("9: 99 events", () -> avalanche(RowTriggers.DELETE, 669).remove(0), 99);
        Check.due("9: 100 events", () -> avalanche(RowTriggers.DELETE, 664).remove(0), 100);
        Check.refused("9: 101 events", Check.STATE, () -> avalanche(RowTriggers.DELETE, 663), x -> x.remove(0));
        Check.refused("9: 102 events", Check.STATE, () -> avalanche(RowTriggers.DELETE, 403), x -> x.remove(0));
    }

    /** "the table, the log and all counts stay as they were" */
    private static void noTraceOfWhatIsRefused() {
        Check.refused("8: refused at the depth 5", Check.STATE, () -> refusedLate(), x -> x.update(0, 0, 930));
        Check.refused("9: refused after a DELETE", Check.STATE, () -> withRules(RowTriggers.ADD, 0, 998), x -> x.remove(1));
        RowTriggers x = refusedLate();
        for (int i = 0; i < 8; i++) {
            Check.fails("8: refused, time after time", Check.STATE, () -> x.update(0, 0, 930));
        }
        Check.due("21: no events", x::eventCount, 7);
        Check.due("22: no acts in the log", x::logSize, 1);
        Check.due("20: no acts", () -> x.actsOf(1), 0);
        Check.due("35: no changes", x::undoCount, 6);
    }

    /** Stairs with a rule at their foot that refuses. */
    private static RowTriggers refusedLate() {
        RowTriggers x = StatementsTest.staircase();
        x.setDepth(5);
        x.addRule(RowTriggers.UPDATE, 1, 0);
        x.addRule(RowTriggers.UPDATE, 0, 401);
        x.setAction(6, RowTriggers.REFUSE, 0, 0, 0);
        x.turnMute(6);
        x.update(5, 1, 9);
        x.turnMute(6);
        x.dropRule(4);
        x.addRule(RowTriggers.UPDATE, 0, 450);
        x.setAction(6, RowTriggers.ADD, 5, 0, 999);
        return x;
    }

    /** "This is a change." */
    private static void eachIsAChange() {
        RowTriggers x = new RowTriggers();
        x.insert(0, 0, 0, 0);
        Check.due("7: is a change", x::undoCount, 1);
        x.update(0, 0, 1);
        Check.due("8: is a change", x::undoCount, 2);
        x.remove(0);
        Check.due("9: is a change", x::undoCount, 3);
        x.undo();
        Check.due("34: the row is back", () -> x.valueAt(0, 0), 1);
        x.undo();
        Check.due("34: with its old value", () -> x.valueAt(0, 0), 0);
        x.undo();
        Check.due("34: and gone", x.hasRow(0), false);
    }
}
