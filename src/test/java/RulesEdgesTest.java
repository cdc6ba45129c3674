/** Promises 1 to 6, and the terms on rules: each sentence that names a boundary case, with a test of its own. */
public final class RulesEdgesTest {
    public static void main(String[] args) {
        emptyAtFirst();
        threeAtFirst();
        eventOfRule();
        columnOfRule();
        leastOfRule();
        atLeastThat();
        behindAndAhead();
        columnThatIsChanged();
        nothingAsAtFirst();
        eightRules();
        noSuchRule();
        actionOutOfRange();
        targetOutOfRange();
        targetCountsForItsActionAlone();
        firstOfTheThrowsClause();
        mutedMatchesNothing();
        greaterNumbersBecomeLess();
        dropTheOnlyOne();
        dropOutOfTheLog();
        depthOutOfRange();
        greatestDepth();
        eachIsAChange();
        Check.end();
    }

    /** Two rows, two rules that have acted, a text, two slots and some recorded states: there is much to keep. */
    static RowTriggers busy() {
        RowTriggers x = new RowTriggers();
        x.addRule(RowTriggers.UPDATE, 0, 5);
        x.addRule(RowTriggers.UPDATE, 1, 0);
        x.setAction(0, RowTriggers.ADD, 1, 1, 3);
        x.insert(0, 1, 2, 3);
        x.saveState(1);
        x.insert(1, 10, 20, 30);
        x.setDepth(2);
        x.update(0, 0, 6);
        x.saveState(0);
        x.update(0, 0, 7);
        Check.append(x, "u0.0=9;r1");
        return x;
    }

    private static RowTriggers withRules(int count) {
        RowTriggers x = new RowTriggers();
        for (int rule = 0; rule < count; rule++) {
            x.addRule(rule % 3, rule % 3, 100 * rule);
        }
        return x;
    }

    /** "Creates an empty table without rules." "A row is there or not; none is at first." */
    private static void emptyAtFirst() {
        RowTriggers x = new RowTriggers();
        for (int row = 0; row < 6; row++) {
            int number = row;
            Check.due("1: row " + row, x.hasRow(row), false);
            Check.fails("1: value of row " + row, Check.STATE, () -> x.valueAt(number, 0));
        }
        Check.due("1: rows", x::rowCount, 0);
        Check.due("1: sum", () -> x.sumOf(2), 0);
        Check.due("1: rules", x::ruleCount, 0);
        Check.due("1: no rules go round", x::circularRules, 0);
        Check.due("1: events", x::eventCount, 0);
        Check.due("1: log", x::logSize, 0);
        Check.due("1: text, empty at first", x::textLength, 0);
        Check.due("1: changes", x::undoCount, 0);
        Check.fails("1: nothing saved in 0", Check.STATE, () -> x.loadState(0));
        Check.fails("1: nothing saved in 1", Check.STATE, () -> x.loadState(1));
    }

    /** "the greatest one, 0 to 5, 3 at first" */
    private static void threeAtFirst() {
        Check.due("1: 3 at first", () -> new RowTriggers().setDepth(3), 3);
    }

    /** "event: INSERT, UPDATE or DELETE" */
    private static void eventOfRule() {
        for (int event : Check.outside(0, 2)) {
            Check.refused("2: event " + event, Check.ARGUMENT, RulesEdgesTest::busy, x -> x.addRule(event, 0, 0));
        }
        for (int event = 0; event <= 2; event++) {
            int number = event;
            Check.due("2: event " + event, () -> new RowTriggers().addRule(number, 0, 0), 0);
        }
    }

    /** "column: 0 to 2" */
    private static void columnOfRule() {
        for (int column : Check.outside(0, 2)) {
            Check.refused("2: column " + column, Check.ARGUMENT, RulesEdgesTest::busy, x -> x.addRule(0, column, 0));
        }
        for (int column = 0; column <= 2; column++) {
            int number = column;
            Check.due("2: column " + column, () -> new RowTriggers().addRule(0, number, 0), 0);
        }
    }

    /** "least: 0 to 999" */
    private static void leastOfRule() {
        for (int least : Check.outside(0, 999)) {
            Check.refused("2: least " + least, Check.ARGUMENT, RulesEdgesTest::busy, x -> x.addRule(0, 0, least));
        }
        Check.due("2: least 0", () -> new RowTriggers().addRule(0, 0, 0), 0);
        Check.due("2: least 999", () -> new RowTriggers().addRule(0, 0, 999), 0);
    }

    /** How often a rule acts when a row goes through the values that are given, in all its columns. */
    private static int acts(int event, int column, int least, int inserted, int updated) {
        RowTriggers x = new RowTriggers();
        x.addRule(event, column, least);
        x.insert(0, inserted, inserted, inserted);
        for (int changed = 0; changed < 3; changed++) {
            x.update(0, changed, updated);
        }
        x.remove(0);
        return x.actsOf(0);
    }

    /** "It matches an event of its kind if the value of the column of the row is at least that" */
    private static void atLeastThat() {
        for (int column = 0; column < 3; column++) {
            for (int least : new int[] {0, 1, 500, 998, 999}) {
                String what = "2: column " + column + ", least " + least;
                int one = column;
                Check.due(what + ", INSERT of it", () -> acts(RowTriggers.INSERT, one, least, least, 0), 1);
                Check.due(what + ", UPDATE to it", () -> acts(RowTriggers.UPDATE, one, least, least == 0 ? 1 : 0, least), 1);
                Check.due(what + ", DELETE of it", () -> acts(RowTriggers.DELETE, one, least, 0, least), 1);
                if (least > 0) {
                    Check.due(what + ", INSERT of 1 less", () -> acts(RowTriggers.INSERT, one, least, least - 1, 999), 0);
                    Check.due(what + ", UPDATE to 1 less", () -> acts(RowTriggers.UPDATE, one, least, 999, least - 1), 0);
                    Check.due(what + ", DELETE of 1 less", () -> acts(RowTriggers.DELETE, one, least, 999, least - 1), 0);
                }
            }
        }
    }

    /** "for INSERT and UPDATE the value behind the event, for DELETE the one ahead of it" */
    private static void behindAndAhead() {
        RowTriggers x = new RowTriggers();
        x.insert(0, 999, 999, 999);
        x.remove(0);
        x.addRule(RowTriggers.INSERT, 0, 50);
        x.insert(0, 49, 0, 0);
        Check.due("INSERT: not what the row had once", () -> x.actsOf(0), 0);
        x.addRule(RowTriggers.UPDATE, 0, 50);
        x.update(0, 0, 50);
        Check.due("UPDATE: the value behind it", () -> x.actsOf(1), 1);
        x.update(0, 0, 49);
        Check.due("UPDATE: not the value ahead of it", () -> x.actsOf(1), 1);
        x.addRule(RowTriggers.DELETE, 0, 49);
        x.remove(0);
        Check.due("DELETE: the value ahead of it", () -> x.actsOf(2), 1);
    }

    /** "for UPDATE, moreover, the column must be the one that is changed" */
    private static void columnThatIsChanged() {
        RowTriggers x = new RowTriggers();
        x.insert(0, 900, 900, 900);
        x.addRule(RowTriggers.UPDATE, 1, 10);
        x.update(0, 0, 901);
        x.update(0, 2, 901);
        Check.due("UPDATE of the other columns", () -> x.actsOf(0), 0);
        x.update(0, 1, 10);
        Check.due("UPDATE of its column", () -> x.actsOf(0), 1);
        x.update(0, 1, 10);
        Check.due("no UPDATE, as the value is that already", () -> x.actsOf(0), 1);
    }

    /** "NOTHING, as at first" */
    private static void nothingAsAtFirst() {
        RowTriggers x = new RowTriggers();
        x.addRule(RowTriggers.INSERT, 0, 0);
        Check.due("2: the action", () -> x.actionOf(0), RowTriggers.NOTHING);
        Check.due("2: not muted", x.isMuted(0), false);
        Check.due("2: no acts", () -> x.actsOf(0), 0);
        Check.due("2: the previous action of the first setAction", () -> x.setAction(0, RowTriggers.ADD, 0, 0, 5), 0);
        x.turnMute(0);
        x.dropRule(0);
        x.addRule(RowTriggers.INSERT, 0, 0);
        Check.due("2: the action of a rule where another was", () -> x.actionOf(0), RowTriggers.NOTHING);
        Check.due("2: a rule where a muted one was", x.isMuted(0), false);
        Check.due("2: it adds nothing", () -> x.insert(0, 1, 1, 1), 1);
        Check.due("2: but acts", () -> x.actsOf(0), 1);
    }

    /** "Rules ..., at most 8"; "Throws IllegalStateException if there are 8 rules" */
    private static void eightRules() {
        for (int rules = 0; rules < 8; rules++) {
            int before = rules;
            RowTriggers x = withRules(rules);
            Check.due("2: with " + rules + " rules", () -> x.addRule(0, 0, 0), before);
            Check.due("17: with one more", x::ruleCount, before + 1);
        }
        Check.refused("2: with 8 rules", Check.STATE, () -> withRules(8), x -> x.addRule(0, 0, 0));
        Check.refused("2: with 8 rules, and least out of range", Check.ARGUMENT, () -> withRules(8), x -> x.addRule(0, 0, -1));
        Check.refused("2: with 8 rules, and event out of range", Check.ARGUMENT, () -> withRules(8), x -> x.addRule(3, 0, 0));
        RowTriggers x = withRules(8);
        x.dropRule(0);
        Check.due("2: after one of 8 was dropped", () -> x.addRule(0, 0, 0), 7);
        Check.fails("2: 8 again", Check.STATE, () -> x.addRule(0, 0, 0));
        x.undo();
        Check.due("2: after the eighth was undone", () -> x.addRule(0, 0, 0), 7);
    }

    /** "Throws IndexOutOfBoundsException if there is no such rule": without rules, with some, and with 8 */
    private static void noSuchRule() {
        for (int rules : new int[] {0, 1, 2, 8}) {
            for (int rule : Check.outside(0, rules - 1)) {
                String what = ": rule " + rule + " of " + rules;
                Check.refused("3" + what, Check.INDEX, () -> withRules(rules), x -> x.setAction(rule, 0, 0, 0, 0));
                Check.refused("4" + what, Check.INDEX, () -> withRules(rules), x -> Check.number(x.turnMute(rule)));
                Check.refused("5" + what, Check.INDEX, () -> withRules(rules), x -> x.dropRule(rule));
            }
        }
        RowTriggers x = withRules(8);
        Check.due("3: the last of 8", () -> x.setAction(7, RowTriggers.TAKE, 0, 0, 0), RowTriggers.NOTHING);
        Check.due("4: the last of 8", x.turnMute(7), true);
        Check.due("5: the last of 8", () -> x.dropRule(7), 0);
        Check.fails("3: the last of 8, dropped", Check.INDEX, () -> x.setAction(7, 0, 0, 0, 0));
    }

    /** "Throws IllegalArgumentException if action ... is out of range" */
    private static void actionOutOfRange() {
        for (int action : Check.outside(0, 3)) {
            Check.refused("3: action " + action, Check.ARGUMENT, RulesEdgesTest::busy, x -> x.setAction(0, action, 0, 0, 0));
        }
        RowTriggers x = withRules(1);
        int previous = RowTriggers.NOTHING;
        for (int action : new int[] {0, 1, 2, 3, 3, 2, 1, 0, 2, 0, 3, 1, 1, 3, 0}) {
            int due = previous;
            Check.due("3: the previous action, then " + action, () -> x.setAction(0, action, 0, 0, 0), due);
            Check.due("18: action " + action, () -> x.actionOf(0), action);
            previous = action;
        }
    }

    /** "if action, row, column or amount is out of range, whatever the action is" */
    private static void targetOutOfRange() {
        for (int action = 0; action <= 3; action++) {
            int a = action;
            for (int row : Check.outside(0, 5)) {
                Check.refused("3: row " + row, Check.ARGUMENT, RulesEdgesTest::busy, x -> x.setAction(0, a, row, 0, 0));
            }
            for (int column : Check.outside(0, 2)) {
                Check.refused("3: column " + column, Check.ARGUMENT, RulesEdgesTest::busy, x -> x.setAction(0, a, 0, column, 0));
            }
            for (int amount : Check.outside(-999, 999)) {
                Check.refused("3: amount " + amount, Check.ARGUMENT, RulesEdgesTest::busy, x -> x.setAction(0, a, 0, 0, amount));
            }
            RowTriggers x = withRules(1);
            Check.due("3: the least ones", () -> x.setAction(0, a, 0, 0, -999), RowTriggers.NOTHING);
            Check.due("3: the greatest ones", () -> x.setAction(0, a, 5, 2, 999), a);
        }
    }

    /** "row: 0 to 5: for ADD and TAKE; column: 0 to 2: for ADD; amount: -999 to 999: for ADD" */
    private static void targetCountsForItsActionAlone() {
        RowTriggers x = new RowTriggers();
        x.insert(0, 1, 1, 1);
        x.insert(5, 1, 1, 1);
        x.addRule(RowTriggers.UPDATE, 0, 0);
        x.setAction(0, RowTriggers.NOTHING, 5, 2, 999);
        Check.due("3: NOTHING does not add", () -> x.update(0, 0, 2), 1);
        Check.due("3: nor does it refuse", () -> x.whyNotUpdate(0, 0, 3), 0);
        x.setAction(0, RowTriggers.ADD, 5, 2, 998);
        Check.due("3: ADD to the last row and column", () -> x.update(0, 0, 3), 2);
        Check.same("3: what it added", Check.pictureOf(x).replaceAll(" rules.*", ""),
                "rows 2 true,3,1,1 false false false false true,1,1,999");
        x.setAction(0, RowTriggers.TAKE, 5, 0, 0);
        Check.due("3: TAKE of the last row", () -> x.update(0, 0, 4), 2);
        Check.due("3: it is gone", x.hasRow(5), false);
    }

    /** "if several exceptions apply, the first one of the throws clause is thrown" */
    private static void firstOfTheThrowsClause() {
        Check.refused("3: no rule, no action", Check.INDEX, RulesEdgesTest::busy, x -> x.setAction(2, 4, 0, 0, 0));
        Check.refused("3: no rule, no row", Check.INDEX, RulesEdgesTest::busy, x -> x.setAction(2, 0, 6, 0, 0));
        Check.refused("3: no rule, no column", Check.INDEX, RulesEdgesTest::busy, x -> x.setAction(-1, 0, 0, 3, 0));
        Check.refused("3: no rule, no amount", Check.INDEX, RulesEdgesTest::busy, x -> x.setAction(-1, 0, 0, 0, 1000));
    }

    /** "A muted rule matches nothing." */
    private static void mutedMatchesNothing() {
        for (int action = 0; action <= 3; action++) {
            RowTriggers x = new RowTriggers();
            x.insert(1, 5, 5, 5);
            x.addRule(RowTriggers.INSERT, 0, 0);
            x.addRule(RowTriggers.INSERT, 0, 0);
            x.setAction(0, action, 1, 0, 1);
            Check.due("4: mutes", x.turnMute(0), true);
            Check.due("19: is muted", x.isMuted(0), true);
            Check.due("4: a muted rule does not stand in the way", () -> x.insert(0, 0, 0, 0), 1);
            Check.due("4: nor act", () -> x.actsOf(0), 0);
            Check.due("4: the other rule acts", () -> x.loggedRule(0), 1);
            Check.due("4: the log has that one alone", x::logSize, 1);
            Check.due("4: wakes", x.turnMute(0), false);
            Check.same("4: an awake rule", Check.outcome(() -> x.insert(2, 0, 0, 0)),
                    action == RowTriggers.REFUSE ? Check.STATE : action == RowTriggers.NOTHING ? "1" : "2");
        }
    }

    /** "when one is dropped, greater numbers become 1 less" */
    private static void greaterNumbersBecomeLess() {
        for (int dropped = 0; dropped < 8; dropped++) {
            RowTriggers x = new RowTriggers();
            for (int rule = 0; rule < 8; rule++) {
                x.addRule(RowTriggers.INSERT, 0, 100 * rule);
            }
            for (int rule = 0; rule < 8; rule += 3) {
                x.turnMute(rule);
            }
            x.insert(0, 550, 0, 0);
            x.insert(1, 399, 0, 0);
            String acts = "02201100".replaceFirst("^(.{" + dropped + "}).", "$1");
            String mutes = "M..M..M.".replaceFirst("^(.{" + dropped + "}).", "$1");
            int number = dropped;
            Check.due("5: how often it has acted", () -> x.dropRule(number), "02201100".charAt(dropped) - '0');
            StringBuilder gotActs = new StringBuilder();
            StringBuilder gotMutes = new StringBuilder();
            for (int rule = 0; rule < x.ruleCount(); rule++) {
                gotActs.append(x.actsOf(rule));
                gotMutes.append(x.isMuted(rule) ? 'M' : '.');
            }
            Check.same("5: acts without " + dropped, gotActs.toString(), acts);
            Check.same("5: mutes without " + dropped, gotMutes.toString(), mutes);
        }
    }

    private static void dropTheOnlyOne() {
        RowTriggers x = withRules(1);
        Check.due("5: it never acted", () -> x.dropRule(0), 0);
        Check.due("5: none is left", x::ruleCount, 0);
        Check.fails("5: nor can it be dropped again", Check.INDEX, () -> x.dropRule(0));
        Check.due("5: nothing acts", () -> x.insert(0, 9, 9, 9) + x.logSize(), 1);
    }

    private static String logOf(RowTriggers x) {
        StringBuilder s = new StringBuilder();
        for (int ago = 0; ago < x.logSize(); ago++) {
            s.append(x.loggedRule(ago)).append(x.loggedDepth(ago)).append(' ');
        }
        return s.toString();
    }

    /** As many updates as are given; rule 0 acts on all, rule 1 on those of column 1. */
    private static RowTriggers withLog(String columns) {
        RowTriggers x = new RowTriggers();
        x.insert(0, 0, 0, 0);
        x.addRule(RowTriggers.UPDATE, 0, 0);
        x.addRule(RowTriggers.UPDATE, 1, 0);
        x.addRule(RowTriggers.UPDATE, 2, 0);
        for (int i = 0; i < columns.length(); i++) {
            x.update(0, columns.charAt(i) - '0', i + 1);
        }
        return x;
    }

    /** "what the log has of it goes, too": all of it, none of it, at both ends, in a log of 16 and of fewer */
    private static void dropOutOfTheLog() {
        String[] histories = {"", "0", "1", "2", "012", "111", "1111111111111111", "0000000000000000",
            "0111111111111111", "1000000000000000", "0000000000000001", "1111111111111110", "012012012012012",
            "0120120120120120", "01201201201201201", "1020102010201020102010201", "0000000001111111122222222"};
        for (String history : histories) {
            for (int dropped = 0; dropped < 3; dropped++) {
                RowTriggers x = withLog(history);
                int from = Math.max(0, history.length() - 16);
                StringBuilder left = new StringBuilder();
                for (int i = history.length() - 1; i >= from; i--) {
                    int rule = history.charAt(i) - '0';
                    left.append(rule == dropped ? "" : (rule > dropped ? rule - 1 : rule) + "0 ");
                }
                x.dropRule(dropped);
                Check.same("5: the log of " + history + " without " + dropped, logOf(x), left.toString());
                x.update(0, dropped == 0 ? 1 : 0, 999);
                String grown = "00 " + left;
                Check.same("5: the log of " + history + " without " + dropped + ", then one more", logOf(x),
                        grown.substring(0, Math.min(grown.length(), 48)));
            }
        }
    }

    /** "depth: 0 to 5"; "Throws IllegalArgumentException if depth is out of range" */
    private static void depthOutOfRange() {
        for (int depth : Check.outside(0, 5)) {
            Check.refused("6: depth " + depth, Check.ARGUMENT, RulesEdgesTest::busy, x -> x.setDepth(depth));
        }
    }

    /** "Changes the greatest depth." "Returns the previous greatest depth." */
    private static void greatestDepth() {
        RowTriggers x = new RowTriggers();
        int previous = 3;
        for (int depth : new int[] {0, 5, 5, 0, 0, 1, 2, 4, 3}) {
            int due = previous;
            Check.due("6: the previous depth, then " + depth, () -> x.setDepth(depth), due);
            previous = depth;
        }
    }

    /** "This is a change.": one each, also where it alters nothing */
    private static void eachIsAChange() {
        RowTriggers x = new RowTriggers();
        x.addRule(0, 0, 0);
        Check.due("2: is a change", x::undoCount, 1);
        x.setAction(0, RowTriggers.NOTHING, 0, 0, 0);
        Check.due("3: is a change", x::undoCount, 2);
        x.turnMute(0);
        Check.due("4: is a change", x::undoCount, 3);
        x.setDepth(3);
        Check.due("6: is a change", x::undoCount, 4);
        x.dropRule(0);
        Check.due("5: is a change", x::undoCount, 5);
    }
}
