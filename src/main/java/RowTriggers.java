/** A small table whose rules act when rows change. */
public final class RowTriggers {
    public static final int NONE = -1;
    public static final int INSERT = 0, UPDATE = 1, DELETE = 2;
    public static final int NOTHING = 0, REFUSE = 1, ADD = 2, TAKE = 3;

    private static final int ROWS = 6;
    private static final int COLUMNS = 3;
    private static final int GREATEST_VALUE = 999;
    private static final int RULE_ROOM = 8;
    private static final int FIRST_DEPTH = 3;
    private static final int GREATEST_DEPTH = 5;
    private static final int EVENT_ROOM = 100;
    private static final int LOG_ROOM = 16;
    private static final int TEXT_ROOM = 80;
    private static final int HISTORY_ROOM = 6;
    private static final int SLOTS = 2;

    // What whyNotUpdate answers. A statement may also find its row missing, or there already: then it is WRONG_ROW.
    private static final int POSSIBLE = 0;
    private static final int WRONG_ROW = 1;
    private static final int WRONG_SUM = 2;
    private static final int TOO_DEEP = 3;
    private static final int TOO_MANY = 4;
    private static final int REFUSED_BY_RULE = 5;

    private static final int GROUP_BITS = 8;
    private static final int GROUPS = 8;
    private static final int LEAST_CODE = 33;
    private static final int GREATEST_CODE = 126;

    // The forms of the commands behind their letters: d stands for one digit, v for a value.
    private static final String INSERT_FORM = "d=v,v,v";
    private static final String UPDATE_FORM = "d.d=v";
    private static final String REMOVE_FORM = "d";
    private static final int VALUE_DIGITS = 3;
    private static final int COMMAND_NUMBERS = 4;

    private final State now = new State();
    private final Statement trial = new Statement();
    private final Chains chains = new Chains();
    private final Text text = new Text();
    private final History history = new History();
    private final State[] slots = new State[SLOTS];
    private final boolean[] slotIsFilled = new boolean[SLOTS];

    public RowTriggers() {
        for (int slot = 0; slot < SLOTS; slot++) {
            slots[slot] = new State();
        }
    }

    // ---- rules

    public int addRule(int event, int column, int least) throws IllegalArgumentException, IllegalStateException {
        if (event < INSERT || event > DELETE || !isColumn(column) || !isValue(least)) {
            throw new IllegalArgumentException("event, column or least is out of range");
        }
        if (now.rulesUsed >= RULE_ROOM) {
            throw new IllegalStateException("there are 8 rules");
        }
        history.keep(now);
        int rule = now.rulesUsed;
        now.rules[rule].start(event, column, least);
        now.rulesUsed++;
        return rule;
    }

    public int setAction(int rule, int action, int row, int column, int amount)
            throws IndexOutOfBoundsException, IllegalArgumentException {
        checkRule(rule);
        if (action < NOTHING || action > TAKE || !isRow(row) || !isColumn(column)
                || amount < -GREATEST_VALUE || amount > GREATEST_VALUE) {
            throw new IllegalArgumentException("action, row, column or amount is out of range");
        }
        history.keep(now);
        Rule changed = now.rules[rule];
        int previous = changed.action;
        changed.action = action;
        changed.targetRow = row;
        changed.targetColumn = column;
        changed.amount = amount;
        return previous;
    }

    public boolean turnMute(int rule) throws IndexOutOfBoundsException {
        checkRule(rule);
        history.keep(now);
        Rule changed = now.rules[rule];
        changed.muted = !changed.muted;
        return changed.muted;
    }

    public int dropRule(int rule) throws IndexOutOfBoundsException {
        checkRule(rule);
        history.keep(now);
        int acts = now.rules[rule].acts;
        now.takeRuleAway(rule);
        return acts;
    }

    public int setDepth(int depth) throws IllegalArgumentException {
        if (depth < 0 || depth > GREATEST_DEPTH) {
            throw new IllegalArgumentException("depth is out of range");
        }
        history.keep(now);
        int previous = now.depth;
        now.depth = depth;
        return previous;
    }

    // ---- statements

    public int insert(int row, int first, int second, int third)
            throws IndexOutOfBoundsException, IllegalArgumentException, IllegalStateException {
        checkRow(row);
        checkValue(first);
        checkValue(second);
        checkValue(third);
        trial.putIn(now, row, first, second, third);
        return finishStatement();
    }

    public int update(int row, int column, int value)
            throws IndexOutOfBoundsException, IllegalArgumentException, IllegalStateException {
        tryUpdate(row, column, value);
        return finishStatement();
    }

    public int remove(int row) throws IndexOutOfBoundsException, IllegalStateException {
        checkRow(row);
        trial.takeOut(now, row);
        return finishStatement();
    }

    public int whyNotUpdate(int row, int column, int value)
            throws IndexOutOfBoundsException, IllegalArgumentException {
        tryUpdate(row, column, value);
        return trial.refusal;
    }

    public int eventsOfUpdate(int row, int column, int value)
            throws IndexOutOfBoundsException, IllegalArgumentException {
        tryUpdate(row, column, value);
        return trial.refusal == POSSIBLE ? trial.events : NONE;
    }

    public int depthOfUpdate(int row, int column, int value)
            throws IndexOutOfBoundsException, IllegalArgumentException {
        tryUpdate(row, column, value);
        return trial.refusal == POSSIBLE ? trial.deepest : NONE;
    }

    /** Makes an update on the trial's copy of the state alone. */
    private void tryUpdate(int row, int column, int value) {
        checkRow(row);
        checkColumn(column);
        checkValue(value);
        trial.change(now, row, column, value);
    }

    /** Takes over what the trial came to, as one change. */
    private int finishStatement() {
        if (trial.refusal != POSSIBLE) {
            throw new IllegalStateException("the row does not allow it, or the statement is refused");
        }
        history.keep(now);
        now.copyFrom(trial.state);
        return trial.events;
    }

    // ---- the table

    public boolean hasRow(int row) throws IndexOutOfBoundsException {
        checkRow(row);
        return now.isThere(row);
    }

    public int rowCount() {
        return now.rowsThere();
    }

    public int valueAt(int row, int column) throws IndexOutOfBoundsException, IllegalStateException {
        checkRow(row);
        checkColumn(column);
        if (!now.isThere(row)) {
            throw new IllegalStateException("the row is not there");
        }
        return now.values[cell(row, column)];
    }

    public int sumOf(int column) throws IndexOutOfBoundsException {
        checkColumn(column);
        int sum = 0;
        for (int row = 0; row < ROWS; row++) {
            if (now.isThere(row)) {
                sum += now.values[cell(row, column)];
            }
        }
        return sum;
    }

    // ---- what rules have done

    public int ruleCount() {
        return now.rulesUsed;
    }

    public int actionOf(int rule) throws IndexOutOfBoundsException {
        checkRule(rule);
        return now.rules[rule].action;
    }

    public boolean isMuted(int rule) throws IndexOutOfBoundsException {
        checkRule(rule);
        return now.rules[rule].muted;
    }

    public int actsOf(int rule) throws IndexOutOfBoundsException {
        checkRule(rule);
        return now.rules[rule].acts;
    }

    public int eventCount() {
        return now.events;
    }

    public int logSize() {
        return now.log.size;
    }

    public int loggedRule(int ago) throws IndexOutOfBoundsException {
        checkAgo(ago);
        return now.log.rules[now.log.placeOf(ago)];
    }

    public int loggedDepth(int ago) throws IndexOutOfBoundsException {
        checkAgo(ago);
        return now.log.depths[now.log.placeOf(ago)];
    }

    // ---- which rules can set off which

    public boolean canSetOff(int rule, int other) throws IndexOutOfBoundsException {
        checkRule(rule);
        checkRule(other);
        return now.rules[rule].setsOff(now.rules[other]);
    }

    public int reachOf(int rule) throws IndexOutOfBoundsException {
        checkRule(rule);
        return chains.search(now, rule);
    }

    public int reachByTable(int rule) throws IndexOutOfBoundsException {
        checkRule(rule);
        chains.fillTable(now);
        return chains.table[rule];
    }

    public int circularRules() {
        chains.fillTable(now);
        int circular = 0;
        for (int rule = 0; rule < now.rulesUsed; rule++) {
            circular |= chains.table[rule] & 1 << rule;
        }
        return circular;
    }

    // ---- the text

    public int appendText(long characters) throws IllegalArgumentException, IllegalStateException {
        int count = charactersIn(characters);
        if (count == NONE) {
            throw new IllegalArgumentException("no character, a code out of range, or bits above the end");
        }
        if (text.length + count > TEXT_ROOM) {
            throw new IllegalStateException("the text would be longer than 80 characters");
        }
        for (int group = count - 1; group >= 0; group--) {
            text.append((char) codeOf(characters, group));
        }
        return text.length;
    }

    public int clearText() {
        int previous = text.length;
        text.length = 0;
        return previous;
    }

    public int textLength() {
        return text.length;
    }

    public int textError() {
        return text.firstError();
    }

    public int runText() throws IllegalStateException {
        if (text.firstError() != NONE) {
            throw new IllegalStateException("the text has an error");
        }
        history.keep(now);
        int executed = 0;
        text.at = 0;
        while (executed < TEXT_ROOM && text.readCommand() && execute()) {
            executed++;
            text.readSign(';');
        }
        text.length = 0;
        return executed;
    }

    /** Executes the command that the text has read, and tells whether it succeeded; records nothing. */
    private boolean execute() {
        int row = text.numbers[0];
        if (text.command == 'i') {
            trial.putIn(now, row, text.numbers[1], text.numbers[2], text.numbers[3]);
        } else if (text.command == 'u') {
            trial.change(now, row, text.numbers[1], text.numbers[2]);
        } else {
            trial.takeOut(now, row);
        }
        if (trial.refusal != POSSIBLE) {
            return false;
        }
        now.copyFrom(trial.state);
        return true;
    }

    private static int codeOf(long characters, int group) {
        return (int) (characters >>> group * GROUP_BITS & 255L);
    }

    /** How many characters a number for appendText holds; NONE if it is none that appendText takes. */
    private static int charactersIn(long characters) {
        int count = 0;
        while (count < GROUPS && codeOf(characters, count) != 0) {
            int code = codeOf(characters, count);
            if (code < LEAST_CODE || code > GREATEST_CODE) {
                return NONE;
            }
            count++;
        }
        for (int group = count; group < GROUPS; group++) {
            if (codeOf(characters, group) != 0) {
                return NONE;
            }
        }
        return count == 0 ? NONE : count;
    }

    // ---- undo, saved states

    public int undo() throws IllegalStateException {
        if (history.size == 0) {
            throw new IllegalStateException("no state is recorded");
        }
        history.takeBack(now);
        return history.size;
    }

    public int undoCount() {
        return history.size;
    }

    public int saveState(int slot) throws IndexOutOfBoundsException {
        checkSlot(slot);
        slots[slot].copyFrom(now);
        slotIsFilled[slot] = true;
        return now.rowsThere();
    }

    public int loadState(int slot) throws IndexOutOfBoundsException, IllegalStateException {
        checkSlot(slot);
        if (!slotIsFilled[slot]) {
            throw new IllegalStateException("nothing was saved in the slot");
        }
        history.keep(now);
        now.copyFrom(slots[slot]);
        return now.rowsThere();
    }

    // ---- what the calls look at first

    private static boolean isRow(int row) {
        return row >= 0 && row < ROWS;
    }

    private static boolean isColumn(int column) {
        return column >= 0 && column < COLUMNS;
    }

    private static boolean isValue(int value) {
        return value >= 0 && value <= GREATEST_VALUE;
    }

    /** Where a row's value of a column stands among all values. */
    private static int cell(int row, int column) {
        return row * COLUMNS + column;
    }

    private static void checkRow(int row) {
        if (!isRow(row)) {
            throw new IndexOutOfBoundsException("there is no such row");
        }
    }

    private static void checkColumn(int column) {
        if (!isColumn(column)) {
            throw new IndexOutOfBoundsException("there is no such column");
        }
    }

    private static void checkValue(int value) {
        if (!isValue(value)) {
            throw new IllegalArgumentException("a value is out of range");
        }
    }

    private void checkRule(int rule) {
        if (rule < 0 || rule >= now.rulesUsed) {
            throw new IndexOutOfBoundsException("there is no such rule");
        }
    }

    private void checkAgo(int ago) {
        if (ago < 0 || ago >= now.log.size) {
            throw new IndexOutOfBoundsException("the log has not so many acts");
        }
    }

    private static void checkSlot(int slot) {
        if (slot < 0 || slot >= SLOTS) {
            throw new IndexOutOfBoundsException("there is no such slot");
        }
    }

    /** A rule, with its action and how often it has acted. */
    private static final class Rule {
        int event;
        int column;
        int least;
        int action;
        int targetRow;
        int targetColumn;
        int amount;
        boolean muted;
        int acts;

        /** Makes this place a new rule, whatever rule stood here before. */
        void start(int newEvent, int newColumn, int newLeast) {
            event = newEvent;
            column = newColumn;
            least = newLeast;
            action = NOTHING;
            targetRow = 0;
            targetColumn = 0;
            amount = 0;
            muted = false;
            acts = 0;
        }

        void copyFrom(Rule other) {
            event = other.event;
            column = other.column;
            least = other.least;
            action = other.action;
            targetRow = other.targetRow;
            targetColumn = other.targetColumn;
            amount = other.amount;
            muted = other.muted;
            acts = other.acts;
        }

        boolean setsOff(Rule other) {
            if (muted || other.muted) {
                return false;
            }
            if (action == ADD) {
                return other.event == UPDATE && other.column == targetColumn;
            }
            return action == TAKE && other.event == DELETE;
        }
    }

    /** The latest acts, in a ring, so that noting one moves no other. */
    private static final class Log {
        final int[] rules = new int[LOG_ROOM];
        final int[] depths = new int[LOG_ROOM];
        int size;
        int latest;

        void copyFrom(Log other) {
            System.arraycopy(other.rules, 0, rules, 0, LOG_ROOM);
            System.arraycopy(other.depths, 0, depths, 0, LOG_ROOM);
            size = other.size;
            latest = other.latest;
        }

        int placeOf(int ago) {
            return Math.floorMod(latest - ago, LOG_ROOM);
        }

        void note(int rule, int depth) {
            latest = (latest + 1) % LOG_ROOM;
            rules[latest] = rule;
            depths[latest] = depth;
            size = Math.min(size + 1, LOG_ROOM);
        }

        /** Forgets the acts of a rule, and gives the rules behind it their new numbers. */
        void forget(int rule) {
            int acts = size;
            int oldest = placeOf(acts - 1);
            size = 0;
            latest = Math.floorMod(oldest - 1, LOG_ROOM);
            // Noting the kept ones anew, from the oldest on, never overtakes the place that is read.
            for (int i = 0; i < acts; i++) {
                int place = Math.floorMod(oldest + i, LOG_ROOM);
                int acted = rules[place];
                if (acted != rule) {
                    note(acted > rule ? acted - 1 : acted, depths[place]);
                }
            }
        }
    }

    /** All that undo and the slots bring back. */
    private static final class State {
        final boolean[] there = new boolean[ROWS];
        final int[] values = new int[ROWS * COLUMNS];
        final Rule[] rules = new Rule[RULE_ROOM];
        final Log log = new Log();
        int rulesUsed;
        int depth = FIRST_DEPTH;
        int events;

        State() {
            for (int rule = 0; rule < RULE_ROOM; rule++) {
                rules[rule] = new Rule();
            }
        }

        void copyFrom(State other) {
            System.arraycopy(other.values, 0, values, 0, ROWS * COLUMNS);
            for (int row = 0; row < ROWS; row++) {
                there[row] = other.there[row];
            }
            for (int rule = 0; rule < other.rulesUsed; rule++) {
                rules[rule].copyFrom(other.rules[rule]);
            }
            log.copyFrom(other.log);
            rulesUsed = other.rulesUsed;
            depth = other.depth;
            events = other.events;
        }

        boolean isThere(int row) {
            return isRow(row) && there[row];
        }

        int rowsThere() {
            int rows = 0;
            for (int row = 0; row < ROWS; row++) {
                if (there[row]) {
                    rows++;
                }
            }
            return rows;
        }

        void takeRuleAway(int rule) {
            for (int place = rule; place + 1 < rulesUsed; place++) {
                rules[place].copyFrom(rules[place + 1]);
            }
            rulesUsed--;
            log.forget(rule);
        }
    }

    /** One statement, on a state of its own, so that a refused one leaves no trace elsewhere. */
    private static final class Statement {
        final State state = new State();
        int events;
        int deepest;
        int refusal;

        private void begin(State from) {
            state.copyFrom(from);
            events = 0;
            deepest = NONE;
            refusal = POSSIBLE;
        }

        void putIn(State from, int row, int first, int second, int third) {
            begin(from);
            if (!isRow(row) || state.there[row]) {
                refusal = WRONG_ROW;
                return;
            }
            // Nobody sees the values of a row that is not there, so they can be laid down ahead of
            // the event: then INSERT and DELETE find the values that rules look at in the same place.
            state.values[cell(row, 0)] = first;
            state.values[cell(row, 1)] = second;
            state.values[cell(row, 2)] = third;
            happen(INSERT, row, 0, 0, 0);
        }

        void change(State from, int row, int column, int value) {
            begin(from);
            if (!state.isThere(row) || !isColumn(column)) {
                refusal = WRONG_ROW;
            } else if (state.values[cell(row, column)] != value) {
                happen(UPDATE, row, column, value, 0);
            }
        }

        void takeOut(State from, int row) {
            begin(from);
            if (!state.isThere(row)) {
                refusal = WRONG_ROW;
            } else {
                happen(DELETE, row, 0, 0, 0);
            }
        }

        /** Makes an event with all that follows from it; column and value count for UPDATE alone. */
        private void happen(int event, int row, int column, int value, int depth) {
            if (depth > state.depth) {
                refusal = TOO_DEEP;
                return;
            }
            if (events >= EVENT_ROOM) {
                refusal = TOO_MANY;
                return;
            }
            // Told now: what the rules change later does not count for this event.
            int matching = matchingRules(event, row, column, value);
            if (hasRefusing(matching)) {
                refusal = REFUSED_BY_RULE;
                return;
            }
            alterTable(event, row, column, value);
            events++;
            state.events++;
            deepest = Math.max(deepest, depth);
            for (int rule = 0; rule < state.rulesUsed && refusal == POSSIBLE; rule++) {
                if ((matching & 1 << rule) != 0) {
                    act(rule, depth);
                }
            }
        }

        private void act(int number, int depth) {
            Rule rule = state.rules[number];
            rule.acts++;
            state.log.note(number, depth);
            int row = rule.targetRow;
            if (!state.isThere(row)) {
                return;
            }
            if (rule.action == TAKE) {
                happen(DELETE, row, 0, 0, depth + 1);
            } else if (rule.action == ADD) {
                int sum = state.values[cell(row, rule.targetColumn)] + rule.amount;
                if (!isValue(sum)) {
                    refusal = WRONG_SUM;
                } else if (rule.amount != 0) {
                    happen(UPDATE, row, rule.targetColumn, sum, depth + 1);
                }
            }
        }

        private void alterTable(int event, int row, int column, int value) {
            if (event == UPDATE) {
                state.values[cell(row, column)] = value;
            } else {
                state.there[row] = event == INSERT;
            }
        }

        private int matchingRules(int event, int row, int column, int value) {
            int matching = 0;
            for (int number = 0; number < state.rulesUsed; number++) {
                Rule rule = state.rules[number];
                if (!rule.muted && rule.event == event && (event != UPDATE || rule.column == column)) {
                    int seen = event == UPDATE ? value : state.values[cell(row, rule.column)];
                    matching |= seen >= rule.least ? 1 << number : 0;
                }
            }
            return matching;
        }

        private boolean hasRefusing(int matching) {
            for (int rule = 0; rule < state.rulesUsed; rule++) {
                if ((matching & 1 << rule) != 0 && state.rules[rule].action == REFUSE) {
                    return true;
                }
            }
            return false;
        }
    }

    /** Which rules can set off which, found in two ways that share only the single step. */
    private static final class Chains {
        final int[] table = new int[RULE_ROOM];

        private static int nextOf(State state, int rule) {
            int next = 0;
            for (int other = 0; other < state.rulesUsed; other++) {
                if (state.rules[rule].setsOff(state.rules[other])) {
                    next |= 1 << other;
                }
            }
            return next;
        }

        /** Goes on from rule to rule; each round but the last finds a new one, so rounds are few. */
        int search(State state, int rule) {
            int reached = 0;
            int fresh = nextOf(state, rule);
            for (int round = 0; round < RULE_ROOM && fresh != 0; round++) {
                reached |= fresh;
                int further = 0;
                for (int other = 0; other < state.rulesUsed; other++) {
                    if ((fresh & 1 << other) != 0) {
                        further |= nextOf(state, other);
                    }
                }
                fresh = further & ~reached;
            }
            return reached;
        }

        /** Fills the table with all that each rule reaches, allowing one more rule between at a time. */
        void fillTable(State state) {
            for (int rule = 0; rule < state.rulesUsed; rule++) {
                table[rule] = nextOf(state, rule);
            }
            for (int between = 0; between < state.rulesUsed; between++) {
                for (int rule = 0; rule < state.rulesUsed; rule++) {
                    if ((table[rule] & 1 << between) != 0) {
                        table[rule] |= table[between];
                    }
                }
            }
        }
    }

    /** The text, and a place in it from which commands are read. */
    private static final class Text {
        final char[] signs = new char[TEXT_ROOM];
        int length;
        int at;
        char command;
        final int[] numbers = new int[COMMAND_NUMBERS];

        void append(char sign) {
            if (length < TEXT_ROOM) {
                signs[length] = sign;
                length++;
            }
        }

        /** The index of the first error, or NONE. Reading stops at the sign that can't follow, or at the end. */
        int firstError() {
            at = 0;
            for (int commands = 0; commands < TEXT_ROOM; commands++) {
                if (!readCommand()) {
                    return at;
                }
                if (at == length) {
                    return NONE;
                }
                if (!readSign(';')) {
                    return at;
                }
            }
            return at;
        }

        boolean readCommand() {
            if (at >= length) {
                return false;
            }
            command = signs[at];
            String form = formOf(command);
            if (form.isEmpty()) {
                return false;
            }
            at++;
            int found = 0;
            for (int i = 0; i < form.length(); i++) {
                char part = form.charAt(i);
                if (part == 'd' || part == 'v') {
                    int number = readNumber(part == 'd' ? 1 : VALUE_DIGITS);
                    if (number == NONE || found >= COMMAND_NUMBERS) {
                        return false;
                    }
                    numbers[found] = number;
                    found++;
                } else if (!readSign(part)) {
                    return false;
                }
            }
            return true;
        }

        /** What stands behind the letter of a command; nothing if there is no such command. */
        private static String formOf(char letter) {
            if (letter == 'i') {
                return INSERT_FORM;
            }
            if (letter == 'u') {
                return UPDATE_FORM;
            }
            return letter == 'r' ? REMOVE_FORM : "";
        }

        boolean readSign(char sign) {
            if (at >= length || signs[at] != sign) {
                return false;
            }
            at++;
            return true;
        }

        /** Reads as many digits as a number can have here; a 0 that comes first is all of it. */
        private int readNumber(int mostDigits) {
            int number = NONE;
            for (int digits = 0; digits < mostDigits && number != 0 && isDigitNext(); digits++) {
                int digit = signs[at] - '0';
                number = digits == 0 ? digit : number * 10 + digit;
                at++;
            }
            return number;
        }

        private boolean isDigitNext() {
            return at < length && signs[at] >= '0' && signs[at] <= '9';
        }
    }

    /** The recorded states, in a ring, so that the oldest one's room serves the newest one. */
    private static final class History {
        final State[] states = new State[HISTORY_ROOM];
        int size;
        int next;

        History() {
            for (int place = 0; place < HISTORY_ROOM; place++) {
                states[place] = new State();
            }
        }

        void keep(State state) {
            states[next].copyFrom(state);
            next = (next + 1) % HISTORY_ROOM;
            size = Math.min(size + 1, HISTORY_ROOM);
        }

        /** Gives a state back what was recorded last, and forgets that. */
        void takeBack(State state) {
            if (size > 0) {
                next = Math.floorMod(next - 1, HISTORY_ROOM);
                state.copyFrom(states[next]);
                size--;
            }
        }
    }
}
