import java.util.ArrayList;
import java.util.List;

/** Promises 34 to 37: undo, and saved states. */
public final class HistoryTest {
    public static void main(String[] args) {
        undoOfEachChange();
        sixStates();
        noChanges();
        textIsNoPart();
        slots();
        slotsStayApart();
        Check.end();
    }

    /** An object in which each kind of change alters something. */
    private static RowTriggers full() {
        RowTriggers x = new RowTriggers();
        x.insert(0, 1, 2, 3);
        x.insert(1, 1, 2, 3);
        x.addRule(RowTriggers.UPDATE, 0, 0);
        x.setAction(0, RowTriggers.ADD, 1, 1, 1);
        x.addRule(RowTriggers.UPDATE, 1, 0);
        x.addRule(RowTriggers.INSERT, 0, 0);
        for (int i = 0; i < 9; i++) {
            x.update(0, 0, 10 + i);
        }
        x.saveState(0);
        x.update(0, 0, 1);
        return x;
    }

    private static void undoOfEachChange() {
        List<Check.CallOn> changes = new ArrayList<>();
        changes.add(x -> x.addRule(0, 0, 0));
        changes.add(x -> x.setAction(0, RowTriggers.REFUSE, 0, 0, 0));
        changes.add(x -> Check.number(x.turnMute(0)));
        changes.add(x -> x.dropRule(0));
        changes.add(x -> x.setDepth(0));
        changes.add(x -> x.insert(2, 7, 7, 7));
        changes.add(x -> x.update(0, 0, 5));
        changes.add(x -> x.update(0, 0, 1));
        changes.add(x -> x.remove(0));
        changes.add(x -> x.appendText(Check.packed("r0")) + x.runText());
        changes.add(x -> x.loadState(0));
        for (int i = 0; i < changes.size(); i++) {
            RowTriggers x = full();
            String before = Check.pictureOf(x);
            int why = x.whyNotUpdate(0, 0, 77);
            changes.get(i).answer(x);
            Check.due("35: six after change " + i, x::undoCount, 6);
            Check.due("34: five left after change " + i, x::undo, 5);
            Check.same("34: as it was ahead of change " + i, Check.pictureOf(x), before);
            Check.due("34: the depth, too, of change " + i, () -> x.whyNotUpdate(0, 0, 77), why);
        }
    }

    private static void sixStates() {
        RowTriggers x = new RowTriggers();
        Check.failsAndKeeps(x, "34: nothing recorded", Check.STATE, x::undo);
        for (int i = 0; i < 9; i++) {
            Check.due("35: after " + i, x::undoCount, Math.min(i, 6));
            if (i == 0) {
                x.insert(0, 0, 0, 0);
            } else {
                x.update(0, 0, i);
            }
        }
        for (int left = 5; left >= 0; left--) {
            Check.due("34: left", x::undo, left);
            Check.due("35: left", x::undoCount, left);
            Check.due("34: the value", () -> x.valueAt(0, 0), x.undoCount() + 2);
        }
        Check.failsAndKeeps(x, "34: no more recorded", Check.STATE, x::undo);
        x.update(0, 0, 50);
        x.update(0, 0, 51);
        x.undo();
        x.update(0, 0, 60);
        Check.due("35: undo is no change", x::undoCount, 2);
        x.undo();
        Check.due("34: ahead of 60", () -> x.valueAt(0, 0), 50);
        x.undo();
        Check.due("34: ahead of 50", () -> x.valueAt(0, 0), 2);
    }

    private static void noChanges() {
        RowTriggers x = full();
        for (int i = 0; i < 6; i++) {
            x.undo();
        }
        x.whyNotUpdate(0, 0, 1);
        x.eventsOfUpdate(0, 0, 1);
        x.depthOfUpdate(0, 0, 1);
        x.reachOf(0);
        x.reachByTable(0);
        x.circularRules();
        x.appendText('r');
        x.textError();
        x.clearText();
        x.saveState(1);
        Check.failsAndKeeps(x, "a call that throws is no change", Check.STATE, () -> x.insert(0, 0, 0, 0));
        Check.due("35: none", x::undoCount, 0);
    }

    private static void textIsNoPart() {
        RowTriggers x = new RowTriggers();
        x.saveState(0);
        x.insert(0, 0, 0, 0);
        Check.append(x, "r0");
        x.undo();
        Check.due("34: the text stays", x::textLength, 2);
        x.loadState(0);
        Check.due("37: the text stays", x::textLength, 2);
        x.insert(0, 0, 0, 0);
        x.runText();
        x.undo();
        Check.due("34: the text does not come back", x::textLength, 0);
        Check.due("34: the row does", x.hasRow(0), true);
    }

    private static void slots() {
        RowTriggers x = new RowTriggers();
        Check.failsAndKeeps(x, "37: nothing in 0", Check.STATE, () -> x.loadState(0));
        Check.failsAndKeeps(x, "37: nothing in 1", Check.STATE, () -> x.loadState(1));
        Check.due("36: no rows", () -> x.saveState(1), 0);
        Check.due("36: is no change", x::undoCount, 0);
        Check.failsAndKeeps(x, "37: still nothing in 0", Check.STATE, () -> x.loadState(0));
        x.addRule(0, 0, 0);
        x.insert(0, 1, 1, 1);
        x.insert(3, 2, 2, 2);
        x.setDepth(5);
        Check.due("36: two rows", () -> x.saveState(0), 2);
        String full = Check.pictureOf(x);
        Check.due("37: no rows", () -> x.loadState(1), 0);
        Check.due("37: is a change", x::undoCount, 5);
        Check.due("37: no rules", x::ruleCount, 0);
        Check.due("37: no events", x::eventCount, 0);
        Check.due("37: the depth", () -> x.setDepth(1), 3);
        Check.due("37: two rows", () -> x.loadState(0), 2);
        Check.same("37: all as saved", Check.pictureOf(x), full);
        Check.due("37: the depth", () -> x.setDepth(1), 5);
        x.remove(0);
        Check.due("37: the slot keeps it", () -> x.loadState(0), 2);
        Check.same("37: all as saved, again", Check.pictureOf(x), full);
        x.undo();
        Check.due("34: the load undone", x::rowCount, 1);
    }

    private static void slotsStayApart() {
        RowTriggers x = new RowTriggers();
        x.insert(0, 1, 1, 1);
        x.saveState(0);
        x.update(0, 0, 2);
        x.saveState(1);
        x.update(0, 0, 3);
        x.undo();
        x.undo();
        x.undo();
        Check.due("37: undo leaves the slots", () -> x.loadState(1), 1);
        Check.due("37: slot 1", () -> x.valueAt(0, 0), 2);
        x.loadState(0);
        Check.due("37: slot 0", () -> x.valueAt(0, 0), 1);
        x.update(0, 0, 4);
        x.saveState(0);
        x.loadState(1);
        x.loadState(0);
        Check.due("36: replaced", () -> x.valueAt(0, 0), 4);
    }
}
