/** Promises 25 to 28: each sentence that names a boundary case, with a test of its own. */
public final class ChainsEdgesTest {
    public static void main(String[] args) {
        noRules();
        noSuchRule();
        neitherIsMuted();
        columnOfTheAction();
        valuesDoNotMatter();
        otherActionsSetOffNothing();
        anyActionCanBeSetOff();
        ruleItself();
        overOthers();
        mutedInBetween();
        eightRules();
        afterRulesAreDropped();
        changesNothing();
        Check.end();
    }

    private static RowTriggers withRules(int count) {
        RowTriggers x = new RowTriggers();
        for (int rule = 0; rule < count; rule++) {
            x.addRule(RowTriggers.UPDATE, 0, 0);
            x.setAction(rule, RowTriggers.ADD, 0, 0, 1);
        }
        return x;
    }

    private static void noRules() {
        Check.due("28: no rules", () -> new RowTriggers().circularRules(), 0);
    }

    /** "Throws IndexOutOfBoundsException if there is no such rule": either one of two, with none, some, and 8 */
    private static void noSuchRule() {
        for (int rules : new int[] {0, 1, 3, 8}) {
            for (int rule : Check.outside(0, rules - 1)) {
                String what = ": rule " + rule + " of " + rules;
                Check.refused("25" + what, Check.INDEX, () -> withRules(rules), x -> Check.number(x.canSetOff(rule, 0)));
                Check.refused("25, the other" + what, Check.INDEX, () -> withRules(rules), x -> Check.number(x.canSetOff(0, rule)));
                Check.refused("25, both" + what, Check.INDEX, () -> withRules(rules), x -> Check.number(x.canSetOff(rule, rule)));
                Check.refused("26" + what, Check.INDEX, () -> withRules(rules), x -> x.reachOf(rule));
                Check.refused("27" + what, Check.INDEX, () -> withRules(rules), x -> x.reachByTable(rule));
            }
        }
        RowTriggers x = withRules(8);
        x.dropRule(0);
        Check.due("25: the last of 7", x.canSetOff(6, 6), true);
        Check.fails("25: the last of 8, when one is dropped", Check.INDEX, () -> Check.number(x.canSetOff(0, 7)));
        Check.fails("26: the last of 8, when one is dropped", Check.INDEX, () -> x.reachOf(7));
        Check.fails("27: the last of 8, when one is dropped", Check.INDEX, () -> x.reachByTable(7));
    }

    /** "whether neither is muted" */
    private static void neitherIsMuted() {
        for (int mutes = 0; mutes < 4; mutes++) {
            for (int action : new int[] {RowTriggers.ADD, RowTriggers.TAKE}) {
                RowTriggers x = new RowTriggers();
                x.addRule(RowTriggers.INSERT, 0, 0);
                x.setAction(0, action, 0, 1, 0);
                x.addRule(action == RowTriggers.ADD ? RowTriggers.UPDATE : RowTriggers.DELETE, 1, 0);
                for (int rule = 0; rule < 2; rule++) {
                    if ((mutes & 1 << rule) != 0) {
                        x.turnMute(rule);
                    }
                }
                Check.due("25: mutes " + mutes, x.canSetOff(0, 1), mutes == 0);
                ChainsTest.told(x, "mutes " + mutes, mutes == 0 ? "2 0" : "0 0", 0);
            }
        }
    }

    /** "its action is ADD, the other one's event is UPDATE and its column that of the action" */
    private static void columnOfTheAction() {
        for (int action = 0; action < 4; action++) {
            for (int target = 0; target < 3; target++) {
                for (int event = 0; event < 3; event++) {
                    for (int column = 0; column < 3; column++) {
                        RowTriggers x = new RowTriggers();
                        x.addRule(RowTriggers.INSERT, (column + 1) % 3, 0);
                        x.setAction(0, action, 0, target, 1);
                        x.addRule(event, column, 999);
                        boolean can = action == RowTriggers.ADD && event == RowTriggers.UPDATE && column == target
                                || action == RowTriggers.TAKE && event == RowTriggers.DELETE;
                        String what = ": action " + action + " of " + target + ", event " + event + " of " + column;
                        Check.due("25" + what, x.canSetOff(0, 1), can);
                        Check.due("25, not the other way" + what, x.canSetOff(1, 0), false);
                    }
                }
            }
        }
    }

    /** "(Values do not matter for this.)" */
    private static void valuesDoNotMatter() {
        for (int amount : new int[] {-999, -1, 0, 1, 999}) {
            for (int least : new int[] {0, 1, 999}) {
                for (int row : new int[] {0, 5}) {
                    RowTriggers x = new RowTriggers();
                    x.addRule(RowTriggers.INSERT, 0, 999);
                    x.setAction(0, RowTriggers.ADD, row, 2, amount);
                    x.addRule(RowTriggers.UPDATE, 2, least);
                    Check.due("25: amount " + amount + ", least " + least, x.canSetOff(0, 1), true);
                    Check.due("26: amount " + amount + ", least " + least, () -> x.reachOf(0), 2);
                    Check.due("27: amount " + amount + ", least " + least, () -> x.reachByTable(0), 2);
                }
            }
        }
    }

    private static void otherActionsSetOffNothing() {
        for (int action : new int[] {RowTriggers.NOTHING, RowTriggers.REFUSE}) {
            RowTriggers x = new RowTriggers();
            for (int event = 0; event < 3; event++) {
                x.addRule(event, 0, 0);
                x.setAction(event, action, 0, 0, 1);
            }
            for (int rule = 0; rule < 9; rule++) {
                Check.due("25: action " + action, x.canSetOff(rule / 3, rule % 3), false);
            }
            ChainsTest.told(x, "action " + action, "0 0 0", 0);
        }
    }

    /** Nothing is asked of the other rule's action. */
    private static void anyActionCanBeSetOff() {
        for (int action = 0; action < 4; action++) {
            RowTriggers x = new RowTriggers();
            x.addRule(RowTriggers.INSERT, 0, 0);
            x.setAction(0, RowTriggers.ADD, 0, 0, 1);
            x.addRule(RowTriggers.UPDATE, 0, 0);
            x.setAction(1, action, 0, 1, 1);
            Check.due("25: to the action " + action, x.canSetOff(0, 1), true);
            ChainsTest.told(x, "to the action " + action, "2 0", 0);
        }
    }

    /** "the rule itself is among them if it can set itself off" */
    private static void ruleItself() {
        for (int action : new int[] {RowTriggers.ADD, RowTriggers.TAKE}) {
            RowTriggers x = new RowTriggers();
            x.addRule(action == RowTriggers.ADD ? RowTriggers.UPDATE : RowTriggers.DELETE, 2, 0);
            x.setAction(0, action, 0, 2, 0);
            Check.due("25: itself", x.canSetOff(0, 0), true);
            ChainsTest.told(x, "itself", "1", 1);
            x.turnMute(0);
            Check.due("25: itself, muted", x.canSetOff(0, 0), false);
            ChainsTest.told(x, "itself, muted", "0", 0);
            x.turnMute(0);
            x.setAction(0, RowTriggers.ADD, 0, 1, 0);
            ChainsTest.told(x, "not itself", "0", 0);
        }
    }

    /** INSERT sets off column 2, that one 1, that one 0, that one DELETE: as long a chain as there can be. */
    private static RowTriggers chain() {
        RowTriggers x = new RowTriggers();
        x.addRule(RowTriggers.DELETE, 0, 0);
        for (int column = 0; column < 3; column++) {
            x.addRule(RowTriggers.UPDATE, column, 0);
            x.setAction(column + 1, column == 0 ? RowTriggers.TAKE : RowTriggers.ADD, 0, Math.max(0, column - 1), 1);
        }
        x.addRule(RowTriggers.INSERT, 0, 0);
        x.setAction(4, RowTriggers.ADD, 0, 2, 1);
        return x;
    }

    /** "straight away or over others" */
    private static void overOthers() {
        ChainsTest.told(chain(), "a chain", "0 1 3 7 15", 0);
        RowTriggers x = chain();
        x.setAction(0, RowTriggers.ADD, 0, 2, 1);
        ChainsTest.told(x, "a circle and a way in", "15 15 15 15 15", 15);
        x.setAction(4, RowTriggers.ADD, 0, 0, 1);
        ChainsTest.told(x, "another way in", "15 15 15 15 15", 15);
        x.setAction(1, RowTriggers.NOTHING, 0, 0, 1);
        ChainsTest.told(x, "an open circle", "14 0 2 6 2", 0);
    }

    /** A muted rule is not gone through. */
    private static void mutedInBetween() {
        String[] reaches = {"0 0 2 6 14", "0 0 0 4 12", "0 1 0 0 8", "0 1 3 0 0", "0 1 3 7 0"};
        for (int muted = 0; muted < 5; muted++) {
            RowTriggers x = chain();
            x.turnMute(muted);
            ChainsTest.told(x, "a chain without " + muted, reaches[muted], 0);
        }
        RowTriggers x = chain();
        x.setAction(0, RowTriggers.ADD, 0, 2, 1);
        x.turnMute(2);
        ChainsTest.told(x, "a circle that is cut", "8 9 0 0 8", 0);
    }

    /** "as a set": all eight bits */
    private static void eightRules() {
        ChainsTest.told(withRules(8), "each sets off each", "255 255 255 255 255 255 255 255", 255);
        RowTriggers x = new RowTriggers();
        for (int rule = 0; rule < 8; rule++) {
            x.addRule(RowTriggers.UPDATE, rule / 3, 0);
            x.setAction(rule, RowTriggers.ADD, 0, (rule / 3 + 1) % 3, 1);
        }
        ChainsTest.told(x, "round in threes", "255 255 255 255 255 255 255 255", 255);
        x.setAction(7, RowTriggers.NOTHING, 0, 0, 1);
        ChainsTest.told(x, "round but for one", "255 255 255 255 255 255 255 0", 127);
        x.setAction(6, RowTriggers.NOTHING, 0, 0, 1);
        ChainsTest.told(x, "round no more", "248 248 248 192 192 192 0 0", 0);
    }

    /** Nothing is left of rules that were dropped. */
    private static void afterRulesAreDropped() {
        RowTriggers x = withRules(8);
        for (int rules = 8; rules > 0; rules--) {
            int all = (1 << rules) - 1;
            Check.due("28: " + rules + " rules", x::circularRules, all);
            Check.due("27: " + rules + " rules", () -> x.reachByTable(0), all);
            Check.due("26: " + rules + " rules", () -> x.reachOf(0), all);
            x.dropRule(rules - 1);
        }
        Check.due("28: no rules", x::circularRules, 0);
        x.addRule(RowTriggers.UPDATE, 0, 0);
        ChainsTest.told(x, "a new rule", "0", 0);
    }

    private static void changesNothing() {
        RowTriggers x = chain();
        String before = Check.wholePictureOf(x);
        ChainsTest.told(x, "a chain", "0 1 3 7 15", 0);
        ChainsTest.told(x, "the chain again", "0 1 3 7 15", 0);
        Check.same("25 to 28 change nothing", Check.wholePictureOf(x), before);
    }
}
