/** Long runs of calls, the same ones each time, on the program and on the model; each answer is compared. */
public final class ModelTest {
    private static final int RUNS = 8000;
    /** An object is good for 512 calls; the last step of a run may take some more than one. */
    private static final int CALLS = 500;

    private long seed = 1;
    private final int kind;
    private final RowTriggers x = new RowTriggers();
    private final Model m = new Model();
    private final StringBuilder told = new StringBuilder();
    private int calls = 0;

    private ModelTest(int run) {
        seed = run * 7919L + 1;
        kind = run % 4;
    }

    public static void main(String[] args) {
        int[] reasons = new int[6];
        int failed = 0;
        for (int run = 0; run < RUNS && failed < 3; run++) {
            ModelTest test = new ModelTest(run);
            if (!test.run(run)) {
                failed++;
            }
            for (int why = 0; why < 6; why++) {
                reasons[why] += test.m.reasons[why];
            }
        }
        for (int why = 0; why < 6; why++) {
            Check.due("the runs meet the reason " + why, reasons[why] > 0, true);
        }
        Check.end();
    }

    /** A number from 0 to below a bound, out of a fixed sequence. */
    private int below(int bound) {
        seed = seed * 6364136223846793005L + 1442695040888963407L;
        return (int) Long.remainderUnsigned(seed >>> 33, bound);
    }

    /** A number in a range, at times one just outside it. */
    private int around(int least, int greatest) {
        int luck = below(300);
        return luck == 0 ? least - 1 : luck == 1 ? greatest + 1 : least + below(greatest - least + 1);
    }

    private boolean run(int run) {
        prepare();
        while (calls < CALLS) {
            if (!call()) {
                System.out.println("run " + run + ":\n" + told);
                return false;
            }
        }
        return true;
    }

    /** Some runs begin with many rows and with rules in bands of values, in which many events follow from one. */
    private void prepare() {
        if (kind == 0) {
            return;
        }
        for (int row = 0; row < 6; row++) {
            int value = 900 - 150 * row;
            compare("insert", () -> x.insert(number(0), number(1), number(2), number(3)),
                    () -> m.insert(number(0), number(1), number(2), number(3)), row, value, value, value);
        }
        if (kind == 1) {
            return;
        }
        compare("setDepth", () -> x.setDepth(number(0)), () -> m.setDepth(number(0)), 5);
        int[] target = kind == 2 ? new int[] {1, 1, 2, 2, 3, 3, 4, 5} : new int[] {5, 4, 3, 3, 2, 2, 1, 1};
        for (int rule = 0; rule < 8; rule++) {
            int column = below(12) == 0 ? below(3) : 0;
            compare("addRule", () -> x.addRule(number(0), number(1), number(2)),
                    () -> m.addRule(number(0), number(1), number(2)), 1, column, 950 - 150 * target[rule] - below(80));
            compareSetAction(rule, below(25) == 0 ? 1 : 2, target[rule], 0, below(5) - 2);
        }
    }

    // The arguments of the call that is compared, so that both sides get the same ones.
    private int[] numbers = {};

    private int number(int i) {
        return numbers[i];
    }

    private boolean compare(String name, Check.Call mine, Check.Call due, int... arguments) {
        numbers = arguments;
        calls++;
        String call = name + java.util.Arrays.toString(arguments);
        String got = Check.outcome(mine);
        String want = Check.outcome(due);
        told.append(call).append(" = ").append(want).append('\n');
        Check.same(call, got, want);
        return got.equals(want);
    }

    private boolean compareSetAction(int... arguments) {
        return compare("setAction", () -> x.setAction(number(0), number(1), number(2), number(3), number(4)),
                () -> m.setAction(number(0), number(1), number(2), number(3), number(4)), arguments);
    }

    private int someRow() {
        return around(0, 5);
    }

    private int someColumn() {
        return kind > 1 && below(4) != 0 ? 0 : around(0, 2);
    }

    private int someRule() {
        return below(40) == 0 ? below(12) - 2 : below(Math.max(1, m.ruleCount()));
    }

    private int someValue() {
        int luck = below(6);
        return luck == 0 ? around(0, 999) : luck == 1 ? below(2) * 999 : luck == 2 ? 900 + below(99) : below(30) * 33;
    }

    private boolean call() {
        int choice = below(100);
        if (choice < 12) {
            return changeRule(choice);
        }
        if (choice < 40) {
            return statement(choice);
        }
        if (choice < 52) {
            return tell(choice);
        }
        if (choice < 64) {
            return text(choice);
        }
        if (choice < 70) {
            return history(choice);
        }
        return choice < 80 ? chains(choice) : look(choice);
    }

    private boolean changeRule(int choice) {
        switch (choice) {
            case 0: case 1: case 2: case 3:
                return compare("addRule", () -> x.addRule(number(0), number(1), number(2)),
                        () -> m.addRule(number(0), number(1), number(2)), around(0, 2), someColumn(), someValue());
            case 4: case 5: case 6: case 7:
                return compareSetAction(someRule(), below(3) == 0 ? around(0, 3) : 2, someRow(), someColumn(),
                        below(4) == 0 ? around(-999, 999) : below(13) - 6);
            case 8: case 9:
                return compare("turnMute", () -> Check.number(x.turnMute(number(0))),
                        () -> Check.number(m.turnMute(number(0))), someRule());
            case 10:
                return compare("dropRule", () -> x.dropRule(number(0)), () -> m.dropRule(number(0)), someRule());
            default:
                return compare("setDepth", () -> x.setDepth(number(0)), () -> m.setDepth(number(0)),
                        below(2) == 0 ? 5 : around(0, 5));
        }
    }

    private boolean statement(int choice) {
        if (choice < 21) {
            return compare("insert", () -> x.insert(number(0), number(1), number(2), number(3)),
                    () -> m.insert(number(0), number(1), number(2), number(3)),
                    someRow(), someValue(), someValue(), someValue());
        }
        if (choice < 37) {
            return compare("update", () -> x.update(number(0), number(1), number(2)),
                    () -> m.update(number(0), number(1), number(2)), someRow(), someColumn(), someValue());
        }
        return compare("remove", () -> x.remove(number(0)), () -> m.remove(number(0)), someRow());
    }

    private boolean tell(int choice) {
        int[] arguments = {someRow(), someColumn(), someValue()};
        return compare("whyNotUpdate", () -> x.whyNotUpdate(number(0), number(1), number(2)),
                () -> m.whyNotUpdate(number(0), number(1), number(2)), arguments)
                && compare("eventsOfUpdate", () -> x.eventsOfUpdate(number(0), number(1), number(2)),
                        () -> m.eventsOfUpdate(number(0), number(1), number(2)), arguments)
                && compare("depthOfUpdate", () -> x.depthOfUpdate(number(0), number(1), number(2)),
                        () -> m.depthOfUpdate(number(0), number(1), number(2)), arguments);
    }

    /** A command that is correct, or one with a letter too few, too many, or wrong. */
    private String someCommand() {
        int luck = below(4);
        String command = luck == 0 ? "r" + below(7)
                : luck == 1 ? "i" + below(7) + "=" + below(1000) + "," + below(12) + "," + below(1000)
                : "u" + below(7) + "." + below(4) + "=" + below(1000);
        int place = below(command.length() * 12);
        if (place < command.length()) {
            String odd = "iur0123456789=.,;x";
            int sign = below(odd.length());
            command = command.substring(0, place) + (sign == 0 ? "" : odd.substring(sign, sign + 1))
                    + command.substring(place + below(2));
        }
        return command;
    }

    private boolean append(long characters) {
        return compare("appendText " + Long.toHexString(characters), () -> x.appendText(characters),
                () -> m.appendText(characters));
    }

    private boolean text(int choice) {
        boolean same = true;
        if (choice < 58) {
            String command = (m.textLength() > 0 ? ";" : "") + someCommand();
            for (int from = 0; from < command.length(); from += 8) {
                same &= append(Check.packed(command.substring(from, Math.min(from + 8, command.length()))));
            }
        } else if (choice == 58) {
            same = append((long) below(1 << 16) << below(56) | below(128));
        } else if (choice == 59 && below(3) == 0) {
            same = compare("clearText", x::clearText, m::clearText);
        } else if (choice < 61) {
            same = compare("runText", x::runText, m::runText);
        }
        return same & compare("textError", x::textError, m::textError)
                & compare("textLength", x::textLength, m::textLength);
    }

    private boolean history(int choice) {
        if (choice < 67) {
            return compare("undo", x::undo, m::undo);
        }
        if (choice == 67) {
            return compare("saveState", () -> x.saveState(number(0)), () -> m.saveState(number(0)), around(0, 1));
        }
        if (choice == 68) {
            return compare("loadState", () -> x.loadState(number(0)), () -> m.loadState(number(0)), around(0, 1));
        }
        return compare("undoCount", x::undoCount, m::undoCount);
    }

    private boolean chains(int choice) {
        if (choice < 73) {
            return compare("canSetOff", () -> Check.number(x.canSetOff(number(0), number(1))),
                    () -> Check.number(m.canSetOff(number(0), number(1))), someRule(), someRule());
        }
        if (choice < 76) {
            return compare("reachOf", () -> x.reachOf(number(0)), () -> m.reachOf(number(0)), someRule());
        }
        if (choice < 79) {
            return compare("reachByTable", () -> x.reachByTable(number(0)), () -> m.reachOf(number(0)), someRule());
        }
        return compare("circularRules", x::circularRules, m::circularRules);
    }

    private boolean look(int choice) {
        switch (choice) {
            case 80:
                return compare("hasRow", () -> Check.number(x.hasRow(number(0))),
                        () -> Check.number(m.hasRow(number(0))), someRow());
            case 81:
                return compare("rowCount", x::rowCount, m::rowCount);
            case 82: case 83: case 84:
                return compare("valueAt", () -> x.valueAt(number(0), number(1)),
                        () -> m.valueAt(number(0), number(1)), someRow(), someColumn());
            case 85: case 86:
                return compare("sumOf", () -> x.sumOf(number(0)), () -> m.sumOf(number(0)), around(0, 2));
            case 87:
                return compare("ruleCount", x::ruleCount, m::ruleCount);
            case 88:
                return compare("actionOf", () -> x.actionOf(number(0)), () -> m.actionOf(number(0)), someRule());
            case 89:
                return compare("isMuted", () -> Check.number(x.isMuted(number(0))),
                        () -> Check.number(m.isMuted(number(0))), someRule());
            case 90: case 91:
                return compare("actsOf", () -> x.actsOf(number(0)), () -> m.actsOf(number(0)), someRule());
            case 92:
                return compare("eventCount", x::eventCount, m::eventCount);
            case 93:
                return compare("logSize", x::logSize, m::logSize);
            case 94: case 95: case 96:
                return compare("loggedRule", () -> x.loggedRule(number(0)), () -> m.loggedRule(number(0)), below(18) - 1);
            default:
                return compare("loggedDepth", () -> x.loggedDepth(number(0)), () -> m.loggedDepth(number(0)), below(18) - 1);
        }
    }
}
