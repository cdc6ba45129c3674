import java.util.LinkedHashMap;
import java.util.Map;

/** Promises 34 to 37: each sentence that names a boundary case, with a test of its own. */
public final class HistoryEdgesTest {
    public static void main(String[] args) {
        noStateIsRecorded();
        recordedEvenIfNothingAlters();
        notRecordedIfItThrows();
        notDescribedAsChanges();
        atMostSix();
        oldestIsDropped();
        undoIsNoChange();
        undoThenChange();
        wholeState();
        textIsNoPart();
        slotsAreNoPart();
        noSuchSlot();
        nothingWasSaved();
        replacesWhatWasSaved();
        slotKeepsIt();
        loadIsAChange();
        rowsAreTold();
        Check.end();
    }

    /** "Throws IllegalStateException if no state is recorded": at first, and when all are undone */
    private static void noStateIsRecorded() {
        Check.refused("34: at first", Check.STATE, RowTriggers::new, x -> x.undo());
        for (int changes = 1; changes <= 8; changes++) {
            int count = changes;
            Check.refused("34: all of " + changes + " undone", Check.STATE, () -> {
                RowTriggers x = withDepths(count);
                for (int i = 0; i < Math.min(count, 6); i++) {
                    x.undo();
                }
                return x;
            }, x -> x.undo());
        }
        Check.due("35: at first", () -> new RowTriggers().undoCount(), 0);
    }

    /** Changes of the greatest depth, to 0, 1, 2, 3, 4, 5, 0, .. in turn. */
    private static RowTriggers withDepths(int changes) {
        RowTriggers x = new RowTriggers();
        for (int change = 0; change < changes; change++) {
            x.setDepth(change % 6);
        }
        return x;
    }

    /** Rows and rules with no state recorded, the state in slot 1, and a text of which no command can be executed. */
    private static RowTriggers settled() {
        RowTriggers x = new RowTriggers();
        x.addRule(RowTriggers.UPDATE, 0, 5);
        x.addRule(RowTriggers.UPDATE, 1, 0);
        x.setAction(0, RowTriggers.ADD, 1, 1, 3);
        x.insert(0, 1, 2, 3);
        x.insert(1, 10, 20, 30);
        for (int i = 0; i < 6; i++) {
            x.setDepth(3);
        }
        for (int i = 0; i < 6; i++) {
            x.undo();
        }
        Check.append(x, "r5;r4");
        x.saveState(1);
        return x;
    }

    /** "Every method that is described as a change and throws no exception first records the state, even if it alters nothing." */
    private static void recordedEvenIfNothingAlters() {
        Map<String, Check.CallOn> changes = new LinkedHashMap<>();
        changes.put("3: the same action", x -> x.setAction(0, RowTriggers.ADD, 1, 1, 3));
        changes.put("6: the same depth", x -> x.setDepth(3));
        changes.put("8: the same value", x -> x.update(0, 0, 1));
        changes.put("33: no command", x -> x.runText());
        changes.put("37: the same state", x -> x.loadState(1));
        for (Map.Entry<String, Check.CallOn> change : changes.entrySet()) {
            RowTriggers x = settled();
            Check.due("35: ahead of it", x::undoCount, 0);
            String before = Check.pictureOf(x);
            for (int times = 1; times <= 3; times++) {
                if (change.getKey().startsWith("33")) {
                    x.clearText();
                    Check.append(x, "r5;r4");
                }
                change.getValue().answer(x);
                Check.due("35: recorded, " + change.getKey(), x::undoCount, times);
                Check.same("nothing altered, " + change.getKey(), Check.pictureOf(x), before);
            }
            Check.due("34: undone, " + change.getKey(), x::undo, 2);
            Check.same("34: nothing altered, " + change.getKey(), Check.pictureOf(x), before);
        }
    }

    /** "and throws no exception" */
    private static void notRecordedIfItThrows() {
        Map<String, Check.CallOn> wrong = new LinkedHashMap<>();
        wrong.put("addRule", x -> x.addRule(3, 0, 0));
        wrong.put("setAction of no rule", x -> x.setAction(7, 0, 0, 0, 0));
        wrong.put("setAction of no row", x -> x.setAction(0, 0, 6, 0, 0));
        wrong.put("turnMute", x -> Check.number(x.turnMute(7)));
        wrong.put("dropRule", x -> x.dropRule(7));
        wrong.put("setDepth", x -> x.setDepth(6));
        wrong.put("insert of no row", x -> x.insert(6, 0, 0, 0));
        wrong.put("insert of a wrong value", x -> x.insert(4, 0, 0, 1000));
        wrong.put("insert where a row is", x -> x.insert(0, 0, 0, 0));
        wrong.put("update of no column", x -> x.update(0, 3, 0));
        wrong.put("update to a wrong value", x -> x.update(0, 0, 1000));
        wrong.put("update without a row", x -> x.update(4, 0, 0));
        wrong.put("remove of no row", x -> x.remove(6));
        wrong.put("remove without a row", x -> x.remove(4));
        wrong.put("loadState", x -> x.loadState(2));
        for (Map.Entry<String, Check.CallOn> call : wrong.entrySet()) {
            for (int changes = 0; changes < 8; changes += 7) {
                RowTriggers x = settled();
                for (int change = 0; change < changes; change++) {
                    x.update(0, 0, 100 + change);
                }
                boolean thrown = Check.outcome(() -> call.getValue().answer(x)).endsWith("Exception");
                Check.due(call.getKey() + " throws", thrown, true);
                Check.due("35: not recorded: " + call.getKey(), x::undoCount, Math.min(changes, 6));
                for (int left = x.undoCount(); left > 0; left--) {
                    x.undo();
                }
                Check.due("34: none was dropped: " + call.getKey(), () -> x.valueAt(0, 0), changes == 0 ? 1 : 100);
            }
        }
    }

    private static void notDescribedAsChanges() {
        RowTriggers x = withDepths(3);
        x.saveState(0);
        x.saveState(1);
        x.appendText('r');
        x.appendText('0');
        x.textError();
        x.textLength();
        x.clearText();
        x.rowCount();
        x.ruleCount();
        x.eventCount();
        x.logSize();
        x.circularRules();
        Check.due("35: none of these is a change", x::undoCount, 3);
        RowTriggers y = settled();
        y.whyNotUpdate(0, 0, 1);
        y.eventsOfUpdate(0, 0, 1);
        y.depthOfUpdate(0, 0, 1);
        y.hasRow(0);
        y.valueAt(0, 0);
        y.sumOf(0);
        y.actionOf(0);
        y.isMuted(0);
        y.actsOf(0);
        y.canSetOff(0, 1);
        y.reachOf(0);
        y.reachByTable(0);
        Check.due("35: nor is any of these", y::undoCount, 0);
    }

    /** "At most 6 states are kept" */
    private static void atMostSix() {
        for (int changes = 0; changes <= 15; changes++) {
            int kept = Math.min(changes, 6);
            RowTriggers x = withDepths(changes);
            Check.due("35: after " + changes, x::undoCount, kept);
            for (int left = kept - 1; left >= 0; left--) {
                Check.due("34: left of " + changes, x::undo, left);
                Check.due("35: left of " + changes, x::undoCount, left);
            }
            Check.fails("34: no more of " + changes, Check.STATE, x::undo);
        }
    }

    /** "when another one is recorded, the oldest one is dropped" */
    private static void oldestIsDropped() {
        for (int changes = 1; changes <= 15; changes++) {
            RowTriggers x = new RowTriggers();
            x.insert(0, 0, 0, 0);
            for (int value = 1; value <= changes; value++) {
                x.update(0, 0, value);
            }
            int due = changes;
            while (x.undoCount() > 0 && due > 0) {
                x.undo();
                due--;
                int value = due;
                Check.due("34: step by step, of " + changes, () -> x.valueAt(0, 0), value);
            }
            Check.due("34: down to the oldest one, of " + changes, x::undoCount, changes < 6 ? 1 : 0);
            Check.due("34: which is it, of " + changes, () -> x.valueAt(0, 0), Math.max(0, changes - 6));
        }
    }

    private static void undoIsNoChange() {
        RowTriggers x = withDepths(4);
        Check.due("34: the first undo", x::undo, 3);
        Check.due("34: the second one goes on", x::undo, 2);
        Check.due("34: the third one goes on", x::undo, 1);
        Check.due("34: the depth is that ahead of the second change", () -> x.setDepth(5), 0);
    }

    /** After some are undone, new ones are recorded behind those that are left. */
    private static void undoThenChange() {
        for (int undone = 0; undone <= 6; undone++) {
            RowTriggers x = new RowTriggers();
            x.insert(0, 0, 0, 0);
            for (int value = 1; value <= 8; value++) {
                x.update(0, 0, value);
            }
            for (int i = 0; i < undone; i++) {
                x.undo();
            }
            for (int value = 100; value < 103; value++) {
                x.update(0, 0, value);
            }
            StringBuilder got = new StringBuilder();
            int kept = Math.min(6, 6 - undone + 3);
            Check.due("35: undone " + undone, x::undoCount, kept);
            for (int i = 0; i < kept; i++) {
                x.undo();
                got.append(x.valueAt(0, 0)).append(' ');
            }
            StringBuilder due = new StringBuilder("101 100 ");
            for (int value = 8 - undone; due.toString().split(" ").length < kept; value--) {
                due.append(value).append(' ');
            }
            Check.same("34: undone " + undone, got.toString(), due.toString());
        }
    }

    /** All that a state has is brought back: rows, rules with all they have, the log, the counts, the greatest depth. */
    private static void wholeState() {
        Map<String, Check.CallOn> changes = new LinkedHashMap<>();
        changes.put("2", x -> x.addRule(0, 0, 0));
        changes.put("3, action", x -> x.setAction(0, RowTriggers.REFUSE, 1, 1, 3));
        changes.put("3, row", x -> x.setAction(0, RowTriggers.ADD, 0, 1, 3));
        changes.put("3, column", x -> x.setAction(0, RowTriggers.ADD, 1, 2, 3));
        changes.put("3, amount", x -> x.setAction(0, RowTriggers.ADD, 1, 1, 4));
        changes.put("4", x -> Check.number(x.turnMute(0)));
        changes.put("5, the first rule", x -> x.dropRule(0));
        changes.put("5, the last rule", x -> x.dropRule(1));
        changes.put("6", x -> x.setDepth(0));
        changes.put("7", x -> x.insert(3, 999, 999, 999));
        changes.put("8", x -> x.update(0, 0, 800));
        changes.put("9", x -> x.remove(1));
        changes.put("33", x -> x.runText());
        changes.put("37", x -> x.loadState(1));
        for (Map.Entry<String, Check.CallOn> change : changes.entrySet()) {
            for (Check.Probe probe : Check.stateProbes()) {
                RowTriggers x = RulesEdgesTest.busy();
                change.getValue().answer(x);
                x.undo();
                x.clearText();
                RowTriggers same = RulesEdgesTest.busy();
                same.clearText();
                Check.same("34: undone " + change.getKey(), probe.tell(x), probe.tell(same));
                RowTriggers y = RulesEdgesTest.busy();
                y.saveState(1);
                change.getValue().answer(y);
                y.loadState(1);
                y.clearText();
                Check.same("37: loaded after " + change.getKey(), probe.tell(y), probe.tell(same()));
            }
        }
    }

    private static RowTriggers same() {
        RowTriggers x = RulesEdgesTest.busy();
        x.clearText();
        return x;
    }

    /** "The text ... not part of a state" */
    private static void textIsNoPart() {
        RowTriggers x = new RowTriggers();
        x.setDepth(1);
        x.saveState(0);
        Check.append(x, "i0=1,1,1");
        x.undo();
        Check.due("34: the text stays", x::textLength, 8);
        x.loadState(0);
        Check.due("37: the text stays", x::textLength, 8);
        Check.due("33: as it was", x::runText, 1);
        x.undo();
        Check.due("34: the text stays empty", x::textLength, 0);
        Check.append(x, "r0");
        x.saveState(0);
        x.clearText();
        x.loadState(0);
        Check.due("37: the text stays empty", x::textLength, 0);
    }

    /** "the slots and the history itself are not part of a state" */
    private static void slotsAreNoPart() {
        RowTriggers x = new RowTriggers();
        x.insert(0, 1, 1, 1);
        x.saveState(0);
        x.undo();
        Check.due("34: the slot stays filled", () -> x.loadState(0), 1);
        x.saveState(1);
        x.remove(0);
        x.saveState(1);
        x.undo();
        Check.due("34: the slot keeps the newer state", () -> x.loadState(1), 0);
        RowTriggers y = withDepths(5);
        y.saveState(0);
        y.undo();
        y.undo();
        y.loadState(0);
        Check.due("37: the history does not come back", y::undoCount, 4);
        y.undo();
        Check.due("34: the history does not come back", y::undoCount, 3);
        Check.due("34: the depth ahead of the load", () -> y.setDepth(0), 2);
    }

    /** "slot: 0 or 1"; "Throws IndexOutOfBoundsException if there is no such slot" */
    private static void noSuchSlot() {
        for (int slot : Check.outside(0, 1)) {
            Check.refused("36: slot " + slot, Check.INDEX, RulesEdgesTest::busy, x -> x.saveState(slot));
            Check.refused("37: slot " + slot, Check.INDEX, RulesEdgesTest::busy, x -> x.loadState(slot));
            Check.refused("36: slot " + slot, Check.INDEX, RowTriggers::new, x -> x.saveState(slot));
            Check.refused("37: slot " + slot, Check.INDEX, RowTriggers::new, x -> x.loadState(slot));
        }
    }

    /** "Throws IllegalStateException if nothing was saved in it" */
    private static void nothingWasSaved() {
        for (int slot = 0; slot < 2; slot++) {
            int number = slot;
            Check.refused("37: nothing in " + slot, Check.STATE, RowTriggers::new, x -> x.loadState(number));
            Check.refused("37: something in the other one, not in " + slot, Check.STATE, () -> {
                RowTriggers x = withDepths(2);
                x.saveState(1 - number);
                return x;
            }, x -> x.loadState(number));
            RowTriggers x = new RowTriggers();
            x.saveState(slot);
            Check.due("37: an empty table can be saved in " + slot, () -> x.loadState(number), 0);
        }
    }

    /** "Saves the state in a slot and replaces what was saved there." */
    private static void replacesWhatWasSaved() {
        for (int slot = 0; slot < 2; slot++) {
            int number = slot;
            RowTriggers x = new RowTriggers();
            x.insert(0, 1, 1, 1);
            x.addRule(0, 0, 0);
            x.saveState(0);
            x.saveState(1);
            x.dropRule(0);
            x.update(0, 0, 2);
            x.insert(1, 2, 2, 2);
            Check.due("36: rows", () -> x.saveState(number), 2);
            x.remove(0);
            Check.due("37: the new one", () -> x.loadState(number), 2);
            Check.due("37: its value", () -> x.valueAt(0, 0), 2);
            Check.due("37: its rules", x::ruleCount, 0);
            Check.due("37: the other slot has the old one", () -> x.loadState(1 - number), 1);
            Check.due("37: the old value", () -> x.valueAt(0, 0), 1);
            Check.due("37: the old rule", x::ruleCount, 1);
        }
    }

    /** "Loads the state that was saved in a slot; the slot keeps it." */
    private static void slotKeepsIt() {
        for (int slot = 0; slot < 2; slot++) {
            int number = slot;
            RowTriggers x = RulesEdgesTest.busy();
            x.saveState(slot);
            String saved = Check.pictureOf(x);
            for (int times = 0; times < 3; times++) {
                x.update(0, 0, 900);
                x.setAction(0, RowTriggers.TAKE, 1, 0, 0);
                x.turnMute(1);
                x.setDepth(5);
                x.dropRule(1);
                x.remove(1);
                Check.due("37: time " + times, () -> x.loadState(number), 2);
                Check.same("37: as saved, time " + times, Check.pictureOf(x), saved);
            }
            Check.due("37: the depth", () -> x.setDepth(0), 2);
        }
    }

    /** "This is a change." */
    private static void loadIsAChange() {
        RowTriggers x = new RowTriggers();
        x.saveState(1);
        x.insert(2, 7, 8, 9);
        x.loadState(1);
        Check.due("35: recorded", x::undoCount, 2);
        Check.due("34: undone", x::undo, 1);
        Check.due("34: what was there", () -> x.valueAt(2, 1), 8);
        x.loadState(1);
        x.loadState(1);
        Check.due("35: recorded, even if it alters nothing", x::undoCount, 3);
        for (int i = 0; i < 8; i++) {
            x.loadState(1);
        }
        Check.due("35: six at most", x::undoCount, 6);
    }

    /** "Returns how many rows are there."; "Returns how many rows are there afterwards." */
    private static void rowsAreTold() {
        RowTriggers x = new RowTriggers();
        for (int rows = 0; rows <= 6; rows++) {
            int due = rows;
            Check.due("36: rows", () -> x.saveState(0), due);
            Check.due("37: rows", () -> x.loadState(0), due);
            if (rows < 6) {
                x.insert(rows, 0, 0, 0);
            }
        }
        for (int row = 0; row < 6; row++) {
            x.remove(row);
        }
        Check.due("36: none", () -> x.saveState(1), 0);
        Check.due("37: all", () -> x.loadState(0), 6);
        Check.due("37: none", () -> x.loadState(1), 0);
    }
}
