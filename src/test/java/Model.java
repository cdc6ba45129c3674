import java.util.ArrayDeque;
import java.util.ArrayList;
import java.util.Arrays;
import java.util.Deque;
import java.util.List;
import java.util.TreeSet;
import java.util.regex.Matcher;
import java.util.regex.Pattern;

/**
 * The document a second time, as plainly as the Java library lets it be said: states are copied whole, events
 * wait on a stack of their own, the text is matched against patterns, reach is counted out over all paths.
 */
final class Model {
    /** A refused statement: 1 to 5 as whyNotUpdate tells them. */
    private static final class Refused extends Exception {
        private static final long serialVersionUID = 1;
        final int why;

        Refused(int why) {
            this.why = why;
        }
    }

    private static final class Rule {
        int event, column, least, action, row, target, amount, acts;
        boolean muted;

        Rule copy() {
            Rule r = new Rule();
            r.event = event;
            r.column = column;
            r.least = least;
            r.action = action;
            r.row = row;
            r.target = target;
            r.amount = amount;
            r.acts = acts;
            r.muted = muted;
            return r;
        }
    }

    private static final class State {
        final int[][] rows = new int[6][];
        final List<Rule> rules = new ArrayList<>();
        final List<int[]> log = new ArrayList<>();
        int depth = 3;
        int events;

        State copy() {
            State s = new State();
            for (int i = 0; i < 6; i++) {
                s.rows[i] = rows[i] == null ? null : rows[i].clone();
            }
            for (Rule rule : rules) {
                s.rules.add(rule.copy());
            }
            for (int[] act : log) {
                s.log.add(act.clone());
            }
            s.depth = depth;
            s.events = events;
            return s;
        }
    }

    /** An event that waits: its row's values ahead of it and behind it (null if the row is not there). */
    private record Event(int row, int[] ahead, int[] behind, int depth) {
    }

    /** An act that waits. */
    private record Act(int rule, int depth) {
    }

    private State state = new State();
    private final Deque<State> history = new ArrayDeque<>();
    private final State[] slots = new State[2];
    private String text = "";

    /** How often each answer of whyNotUpdate came, so that the runs can tell what they have met. */
    final int[] reasons = new int[6];

    private void change() {
        history.addLast(state.copy());
        if (history.size() > 6) {
            history.removeFirst();
        }
    }

    private static void index(boolean ok) {
        if (!ok) {
            throw new IndexOutOfBoundsException();
        }
    }

    private static void argument(boolean ok) {
        if (!ok) {
            throw new IllegalArgumentException();
        }
    }

    private static void allowed(boolean ok) {
        if (!ok) {
            throw new IllegalStateException();
        }
    }

    private static boolean in(int least, int number, int greatest) {
        return least <= number && number <= greatest;
    }

    private Rule rule(int number) {
        index(in(0, number, state.rules.size() - 1));
        return state.rules.get(number);
    }

    int addRule(int event, int column, int least) {
        argument(in(0, event, 2) && in(0, column, 2) && in(0, least, 999));
        allowed(state.rules.size() < 8);
        change();
        Rule rule = new Rule();
        rule.event = event;
        rule.column = column;
        rule.least = least;
        state.rules.add(rule);
        return state.rules.size() - 1;
    }

    int setAction(int number, int action, int row, int column, int amount) {
        rule(number);
        argument(in(0, action, 3) && in(0, row, 5) && in(0, column, 2) && in(-999, amount, 999));
        change();
        Rule rule = rule(number);
        int previous = rule.action;
        rule.action = action;
        rule.row = row;
        rule.target = column;
        rule.amount = amount;
        return previous;
    }

    boolean turnMute(int number) {
        rule(number);
        change();
        rule(number).muted ^= true;
        return rule(number).muted;
    }

    int dropRule(int number) {
        rule(number);
        change();
        state.log.removeIf(act -> act[0] == number);
        state.log.forEach(act -> act[0] -= act[0] > number ? 1 : 0);
        return state.rules.remove(number).acts;
    }

    int setDepth(int depth) {
        argument(in(0, depth, 5));
        change();
        int previous = state.depth;
        state.depth = depth;
        return previous;
    }

    // ---- statements: each on a copy, which is kept if it is not refused

    /** Runs a statement; what waits stands on a stack, so that what follows is finished first. */
    private static int run(State s, int row, int[] behind, int[] deepest) throws Refused {
        Deque<Object> waiting = new ArrayDeque<>();
        waiting.push(new Event(row, s.rows[row], behind, 0));
        int events = 0;
        deepest[0] = -1;
        while (!waiting.isEmpty()) {
            Object next = waiting.pop();
            if (next instanceof Act act) {
                Event made = eventOf(s, act);
                if (made != null) {
                    waiting.push(made);
                }
                continue;
            }
            Event event = (Event) next;
            if (Arrays.equals(event.ahead, event.behind)) {
                continue;
            }
            if (event.depth > s.depth) {
                throw new Refused(3);
            }
            if (events == 100) {
                throw new Refused(4);
            }
            Deque<Act> acts = new ArrayDeque<>();
            for (int number = 0; number < s.rules.size(); number++) {
                if (matches(s.rules.get(number), event)) {
                    if (s.rules.get(number).action == RowTriggers.REFUSE) {
                        throw new Refused(5);
                    }
                    acts.push(new Act(number, event.depth));
                }
            }
            acts.forEach(waiting::push);
            s.rows[event.row] = event.behind;
            s.events++;
            events++;
            deepest[0] = Math.max(deepest[0], event.depth);
        }
        return events;
    }

    private static boolean matches(Rule rule, Event event) {
        int kind = event.ahead == null ? RowTriggers.INSERT : event.behind == null ? RowTriggers.DELETE : RowTriggers.UPDATE;
        if (rule.muted || rule.event != kind) {
            return false;
        }
        if (kind == RowTriggers.UPDATE && event.ahead[rule.column] == event.behind[rule.column]) {
            return false;
        }
        return (kind == RowTriggers.DELETE ? event.ahead : event.behind)[rule.column] >= rule.least;
    }

    private static Event eventOf(State s, Act act) throws Refused {
        Rule rule = s.rules.get(act.rule);
        rule.acts++;
        s.log.add(0, new int[] {act.rule, act.depth});
        if (s.log.size() > 16) {
            s.log.remove(16);
        }
        int[] ahead = s.rows[rule.row];
        if (ahead == null || rule.action == RowTriggers.NOTHING) {
            return null;
        }
        int[] behind = null;
        if (rule.action == RowTriggers.ADD) {
            behind = ahead.clone();
            behind[rule.target] += rule.amount;
            if (!in(0, behind[rule.target], 999)) {
                throw new Refused(2);
            }
        }
        return new Event(rule.row, ahead, behind, act.depth + 1);
    }

    private int execute(int row, int[] behind, boolean records) {
        State copy = state.copy();
        try {
            int events = run(copy, row, behind, new int[1]);
            if (records) {
                change();
            }
            state = copy;
            return events;
        } catch (Refused refused) {
            throw new IllegalStateException();
        }
    }

    private int insert(int row, int[] values, boolean records) {
        index(in(0, row, 5));
        argument(in(0, values[0], 999) && in(0, values[1], 999) && in(0, values[2], 999));
        allowed(state.rows[row] == null);
        return execute(row, values, records);
    }

    private int[] updated(int row, int column, int value) {
        index(in(0, row, 5) && in(0, column, 2));
        argument(in(0, value, 999));
        if (state.rows[row] == null) {
            return null;
        }
        int[] behind = state.rows[row].clone();
        behind[column] = value;
        return behind;
    }

    private int update(int row, int column, int value, boolean records) {
        int[] behind = updated(row, column, value);
        allowed(behind != null);
        return execute(row, behind, records);
    }

    private int remove(int row, boolean records) {
        index(in(0, row, 5));
        allowed(state.rows[row] != null);
        return execute(row, null, records);
    }

    int insert(int row, int first, int second, int third) {
        return insert(row, new int[] {first, second, third}, true);
    }

    int update(int row, int column, int value) {
        return update(row, column, value, true);
    }

    int remove(int row) {
        return remove(row, true);
    }

    /** Why not, how many events, and the greatest depth, of an update. */
    private int[] told(int row, int column, int value) {
        int[] behind = updated(row, column, value);
        if (behind == null) {
            return new int[] {1, -1, -1};
        }
        try {
            int[] deepest = new int[1];
            int events = run(state.copy(), row, behind, deepest);
            return new int[] {0, events, deepest[0]};
        } catch (Refused refused) {
            return new int[] {refused.why, -1, -1};
        }
    }

    int whyNotUpdate(int row, int column, int value) {
        int why = told(row, column, value)[0];
        reasons[why]++;
        return why;
    }

    int eventsOfUpdate(int row, int column, int value) {
        return told(row, column, value)[1];
    }

    int depthOfUpdate(int row, int column, int value) {
        return told(row, column, value)[2];
    }

    boolean hasRow(int row) {
        index(in(0, row, 5));
        return state.rows[row] != null;
    }

    int rowCount() {
        return (int) Arrays.stream(state.rows).filter(row -> row != null).count();
    }

    int valueAt(int row, int column) {
        index(in(0, row, 5) && in(0, column, 2));
        allowed(state.rows[row] != null);
        return state.rows[row][column];
    }

    int sumOf(int column) {
        index(in(0, column, 2));
        return Arrays.stream(state.rows).filter(row -> row != null).mapToInt(row -> row[column]).sum();
    }

    int ruleCount() {
        return state.rules.size();
    }

    int actionOf(int number) {
        return rule(number).action;
    }

    boolean isMuted(int number) {
        return rule(number).muted;
    }

    int actsOf(int number) {
        return rule(number).acts;
    }

    int eventCount() {
        return state.events;
    }

    int logSize() {
        return state.log.size();
    }

    int loggedRule(int ago) {
        index(in(0, ago, state.log.size() - 1));
        return state.log.get(ago)[0];
    }

    int loggedDepth(int ago) {
        index(in(0, ago, state.log.size() - 1));
        return state.log.get(ago)[1];
    }

    boolean canSetOff(int number, int otherNumber) {
        Rule rule = rule(number);
        Rule other = rule(otherNumber);
        boolean byAdd = rule.action == RowTriggers.ADD && other.event == RowTriggers.UPDATE && other.column == rule.target;
        boolean byTake = rule.action == RowTriggers.TAKE && other.event == RowTriggers.DELETE;
        return !rule.muted && !other.muted && (byAdd || byTake);
    }

    int reachOf(int number) {
        rule(number);
        TreeSet<Integer> reached = new TreeSet<>();
        follow(number, reached);
        return reached.stream().mapToInt(r -> 1 << r).sum();
    }

    private void follow(int number, TreeSet<Integer> reached) {
        for (int other = 0; other < state.rules.size(); other++) {
            if (canSetOff(number, other) && reached.add(other)) {
                follow(other, reached);
            }
        }
    }

    int circularRules() {
        int circular = 0;
        for (int number = 0; number < state.rules.size(); number++) {
            circular += reachOf(number) & 1 << number;
        }
        return circular;
    }

    int appendText(long characters) {
        String bytes = String.format("%016x", characters).replaceAll("(..)", "$1 ");
        String added = "";
        String[] codes = bytes.trim().split(" ");
        boolean begun = false;
        for (String code : codes) {
            int c = Integer.parseInt(code, 16);
            begun |= c != 0;
            argument(!begun || in(33, c, 126));
            added += begun ? String.valueOf((char) c) : "";
        }
        argument(begun);
        allowed(text.length() + added.length() <= 80);
        text += added;
        return text.length();
    }

    int clearText() {
        int length = text.length();
        text = "";
        return length;
    }

    int textLength() {
        return text.length();
    }

    private static final String VALUE = "(0|[1-9]\\d{0,2})";
    private static final Pattern COMMAND = Pattern.compile(
            "i(\\d)=" + VALUE + "," + VALUE + "," + VALUE + "|u(\\d)\\.(\\d)=" + VALUE + "|r(\\d)");
    private static final Pattern COMMANDS = Pattern.compile(
            "(" + COMMAND.pattern() + ")(;(" + COMMAND.pattern() + "))*");

    /** The matcher says itself whether more characters could still make a match out of what is there. */
    int textError() {
        if (COMMANDS.matcher(text).matches()) {
            return -1;
        }
        for (int length = 1; length <= text.length(); length++) {
            Matcher beginning = COMMANDS.matcher(text.substring(0, length));
            if (!beginning.matches() && !beginning.hitEnd()) {
                return length - 1;
            }
        }
        return text.length();
    }

    int runText() {
        allowed(textError() == -1);
        change();
        int executed = 0;
        try {
            for (String command : text.split(";")) {
                String[] n = command.substring(1).split("[=.,]");
                int row = Integer.parseInt(n[0]);
                if (command.charAt(0) == 'i') {
                    insert(row, new int[] {Integer.parseInt(n[1]), Integer.parseInt(n[2]), Integer.parseInt(n[3])}, false);
                } else if (command.charAt(0) == 'u') {
                    update(row, Integer.parseInt(n[1]), Integer.parseInt(n[2]), false);
                } else {
                    remove(row, false);
                }
                executed++;
            }
        } catch (IndexOutOfBoundsException | IllegalStateException e) {
            // The command failed, so no further one is executed.
        }
        text = "";
        return executed;
    }

    int undo() {
        allowed(!history.isEmpty());
        state = history.removeLast();
        return history.size();
    }

    int undoCount() {
        return history.size();
    }

    int saveState(int slot) {
        index(in(0, slot, 1));
        slots[slot] = state.copy();
        return rowCount();
    }

    int loadState(int slot) {
        index(in(0, slot, 1));
        allowed(slots[slot] != null);
        change();
        state = slots[slot].copy();
        return rowCount();
    }
}
