import java.util.Arrays;

/**
 * A table of gates, as the document tells it. Words of the document keep their meaning here: gate,
 * task, step, trace, turn, ring, victim, loop, way, sheet, lane.
 */
public final class GateTable {
    public static final int BAD = -1, NOT = -2, FULL = -3, NONE = -4, NULL = -11, CAST = -12, INDEX = -13, SIZE = -14;

    private static final int GATES = 6, TASKS = 4, SHEETS = 4, LANES = 4, RULES = 5;
    private static final int MOST_LETTERS = 60, MOST_OPEN = 6, MOST_STEPS = 30;
    private static final int MOST_TURNS = 40, MOST_KNOWN = 6, MOST_ITEMS = 24;
    private static final int FIRST_FAULT = -20, FINE = 0;
    private static final int ENTER = 0, LEAVE = 1, ADD = 2;
    private static final int IDLE = 0, GOING = 1, WAITING = 2, ENDED = 3, BROKEN = 4;

    private final Tape tape;
    private final Player player;
    private final Trace[] fresh;
    private final Table table;
    private final Table trial;
    private final History history;
    private final Table imageTable;
    private final History imageHistory;
    private boolean imaged;
    private final Order order;
    private final Pair pair;
    private final Sheet[] sheets;

    public GateTable() {
        tape = new Tape();
        player = new Player();
        Script nothing = new Script(new char[0]);
        Trace still = new Trace(player);
        fresh = new Trace[TASKS];
        for (int t = 0; t < TASKS; t++) {
            fresh[t] = still;
        }
        table = new Table(nothing, still);
        trial = new Table(nothing, still);
        history = new History(nothing, still);
        imageTable = new Table(nothing, still);
        imageHistory = new History(nothing, still);
        imaged = false;
        order = new Order();
        pair = new Pair(still);
        sheets = new Sheet[SHEETS];
        for (int s = 0; s < SHEETS; s++) {
            sheets[s] = new Sheet();
        }
    }

    // ---- 1 programs

    public int type(int letter) {
        if (letter < ' ' || letter > '~') {
            return BAD;
        }
        return tape.append((char) letter) ? tape.length() : FULL;
    }

    public int program(int task) {
        if (isNoTask(task)) {
            return BAD;
        }
        int answer = table.isBusy() ? NOT : told(task);
        tape.clear();
        return answer;
    }

    public int gone(int gate) {
        if (isNoGate(gate)) {
            return BAD;
        }
        if (table.isBusy()) {
            return NOT;
        }
        int goneThen = table.goneGates() ^ bit(gate);
        for (int t = 0; t < TASKS; t++) {
            if (!player.plays(table.script(t), goneThen)) {
                return FULL;
            }
            fresh[t] = new Trace(player);
        }
        history.keep(table);
        table.changeGates(goneThen, fresh);
        return has(goneThen, gate) ? 1 : 0;
    }

    public int run(int task) {
        if (isNoTask(task)) {
            return BAD;
        }
        if (table.isBusy()) {
            return NOT;
        }
        history.keep(table);
        table.addWholeTrace(task);
        return table.trace(task).length();
    }

    public int alone(int task, int what) {
        return isNoTask(task) ? BAD : table.trace(task).summary(what);
    }

    public int step(int task, int k, int what) {
        return isNoTask(task) ? BAD : table.trace(task).detail(k, what);
    }

    // ---- 2 the table

    public int rule(int r) {
        if (r < 0 || r >= RULES) {
            return BAD;
        }
        int was = table.ruleNow();
        if (r == was) {
            return NOT;
        }
        history.keep(table);
        table.changeRule(r);
        return was;
    }

    public int turn(int task) {
        if (isNoTask(task)) {
            return BAD;
        }
        if (table.isOver(task)) {
            return NOT;
        }
        history.keep(table);
        return table.takeTurn(task);
    }

    public int go(int n) {
        if (n < 1 || n > MOST_TURNS) {
            return BAD;
        }
        if (table.tasksLeft() == 0) {
            return 0;
        }
        history.keep(table);
        int turns = 0;
        while (turns < n && table.tasksLeft() != 0) {
            table.takeDrawnTurn();
            turns++;
        }
        return turns;
    }

    public int lay() {
        if (table.isUntouched()) {
            return NOT;
        }
        history.keep(table);
        return table.layAnew();
    }

    public int gate(int g, int what) {
        return isNoGate(g) ? BAD : table.tellGate(g, what);
    }

    public int task(int t, int what) {
        return isNoTask(t) ? BAD : table.tellTask(t, what);
    }

    public int count(int what) {
        return what == 8 ? history.length() : table.tellAll(what);
    }

    // ---- 3 what may come

    public int ahead(int a, int b) {
        if (isNoGate(a) || isNoGate(b) || a == b) {
            return BAD;
        }
        order.read(table);
        return order.isAhead(a, b) ? 1 : 0;
    }

    public int loops(int what) {
        if (what < 0 || what > 2) {
            return BAD;
        }
        order.read(table);
        return order.tellLoops(what);
    }

    public long ways(int i, int j, int what) {
        if (isNoPair(i, j) || what < 0 || what > 1) {
            return BAD;
        }
        pair.goAllWays(table.trace(i), table.trace(j));
        return what == 0 ? pair.waysDone() : pair.waysStuck();
    }

    public long odds(int i, int j, int what) {
        if (isNoPair(i, j) || what < 0 || what > 1) {
            return BAD;
        }
        pair.goAllWays(table.trace(i), table.trace(j));
        return what == 0 ? pair.oddsAbove() : pair.oddsBelow();
    }

    public int near(int i, int j) {
        if (isNoPair(i, j)) {
            return BAD;
        }
        pair.goAllWays(table.trace(i), table.trace(j));
        return pair.nearestStuck();
    }

    // ---- 4 what is done

    public int drift(int n) {
        if (n < 1 || n > MOST_TURNS) {
            return BAD;
        }
        for (int k = 0; k < n; k++) {
            history.keep(table);
            table.driftOnce();
        }
        return table.tasksThatAre(IDLE);
    }

    public int undo() {
        if (history.length() == 0) {
            return NONE;
        }
        history.giveBack(table);
        return history.length();
    }

    public int seed(int v) {
        return v < 0 ? BAD : table.changeDraw(v);
    }

    public int image() {
        imageTable.become(table);
        imageHistory.become(history);
        imaged = true;
        return 1;
    }

    public int restore() {
        if (!imaged) {
            return NONE;
        }
        table.become(imageTable);
        history.become(imageHistory);
        return 1;
    }

    // ---- sheets

    public int tried(int sheet, int lane, int i, int n) {
        if (isNoSheet(sheet) || isNoLane(lane) || n < 1 || n > MOST_ITEMS) {
            return BAD;
        }
        int found = sheets[sheet].find(lane, i, n);
        if (found != FINE) {
            return found;
        }
        return sheets[sheet].tellsTasks(i, n) ? tryRow(sheets[sheet], i, n) : NOT;
    }

    public int film(int sheet, int lane, int i) {
        if (isNoSheet(sheet) || isNoLane(lane)) {
            return BAD;
        }
        int found = sheets[sheet].find(lane, i, TASKS);
        if (found != FINE) {
            return found;
        }
        for (int t = 0; t < TASKS; t++) {
            sheets[sheet].put(i + t, table.stepsDone(t));
        }
        return TASKS;
    }

    public int sheet(int sheet, int lane, int n) {
        if (isNoSheet(sheet) || isNoLane(lane) || n > MOST_ITEMS) {
            return BAD;
        }
        if (n < 0) {
            return SIZE;
        }
        sheets[sheet].begin(lane, n);
        return n;
    }

    public int drop(int sheet) {
        if (isNoSheet(sheet)) {
            return BAD;
        }
        return sheets[sheet].isMissing() ? NULL : sheets[sheet].end();
    }

    public int item(int sheet, int lane, int i, long v) {
        if (isNoSheet(sheet) || isNoLane(lane)) {
            return BAD;
        }
        int found = sheets[sheet].find(lane, i, 1);
        if (found != FINE) {
            return found;
        }
        sheets[sheet].put(i, v);
        return 1;
    }

    public int copy(int from, int i, int to, int j, int n) {
        if (isNoSheet(from) || isNoSheet(to)) {
            return BAD;
        }
        Sheet source = sheets[from];
        Sheet target = sheets[to];
        if (source.isMissing() || target.isMissing()) {
            return NULL;
        }
        if (!source.isLike(target)) {
            return CAST;
        }
        if (!source.hasRoom(i, n) || !target.hasRoom(j, n)) {
            return INDEX;
        }
        source.give(i, target, j, n);
        return n;
    }

    // ---- what the calls share

    private static boolean isNoTask(int t) {
        return t < 0 || t >= TASKS;
    }

    private static boolean isNoGate(int g) {
        return g < 0 || g >= GATES;
    }

    private static boolean isNoPair(int i, int j) {
        return isNoTask(i) || isNoTask(j) || i == j;
    }

    private static boolean isNoSheet(int s) {
        return s < 0 || s >= SHEETS;
    }

    private static boolean isNoLane(int lane) {
        return lane < 0 || lane >= LANES;
    }

    private static int bit(int number) {
        return 1 << number;
    }

    private static boolean has(int set, int number) {
        return (set & 1 << number) != 0;
    }

    private int told(int task) {
        int place = tape.findFault();
        if (place != NONE) {
            return FIRST_FAULT - place;
        }
        Script script = tape.toScript();
        if (!player.plays(script, table.goneGates())) {
            return FULL;
        }
        history.keep(table);
        table.changeProgram(task, script, new Trace(player));
        return table.trace(task).length();
    }

    private int tryRow(Sheet row, int i, int n) {
        trial.become(table);
        int turns = 0;
        while (turns < n) {
            int t = row.taskAt(i + turns);
            if (isNoTask(t) || trial.isOver(t)) {
                return turns;
            }
            trial.takeTurn(t);
            if (trial.isWaiting(t)) {
                return turns;
            }
            turns++;
        }
        return turns;
    }

    /** The letters told so far, and the grammar that they must keep to. */
    private static final class Tape {
        private static final int AT_ITEM = 0, BEHIND_LETTER = 1, BEHIND_SIGN = 2, BEHIND_FIGURE = 3;

        private final char[] letters = new char[MOST_LETTERS];
        private int size = 0;
        private final char[] closers = new char[MOST_OPEN];
        private int open = 0;
        private int place = AT_ITEM;

        int length() {
            return size;
        }

        boolean append(char letter) {
            if (size >= MOST_LETTERS) {
                return false;
            }
            letters[size] = letter;
            size++;
            return true;
        }

        void clear() {
            size = 0;
        }

        /** The place of the first letter that can't stand there, or NONE. */
        int findFault() {
            open = 0;
            place = AT_ITEM;
            for (int k = 0; k < size; k++) {
                if (letters[k] != ' ' && !accepts(letters[k])) {
                    return k;
                }
            }
            return open == 0 && place == AT_ITEM ? NONE : size;
        }

        Script toScript() {
            char[] dense = new char[size - blanks()];
            int kept = 0;
            for (int k = 0; k < size && kept < dense.length; k++) {
                if (letters[k] != ' ') {
                    dense[kept] = letters[k];
                    kept++;
                }
            }
            return new Script(dense);
        }

        private int blanks() {
            int count = 0;
            for (int k = 0; k < size; k++) {
                if (letters[k] == ' ') {
                    count++;
                }
            }
            return count;
        }

        private boolean accepts(char letter) {
            switch (place) {
                case BEHIND_LETTER:
                    if (letter == '+' || letter == '-') {
                        place = BEHIND_SIGN;
                        return true;
                    }
                    return letter == '(' && opens(')');
                case BEHIND_SIGN:
                    place = AT_ITEM;
                    return letter >= '1' && letter <= '9';
                case BEHIND_FIGURE:
                    return letter == '{' && opens('}');
                default:
                    return acceptsAtItem(letter);
            }
        }

        private boolean acceptsAtItem(char letter) {
            if (letter >= 'a' && letter <= 'f') {
                place = BEHIND_LETTER;
                return true;
            }
            if (letter >= '2' && letter <= '5') {
                place = BEHIND_FIGURE;
                return true;
            }
            if (letter == '[') {
                return opens(']');
            }
            return letter == '!' || closes(letter);
        }

        private boolean opens(char closer) {
            if (open >= MOST_OPEN) {
                return false;
            }
            closers[open] = closer;
            open++;
            place = AT_ITEM;
            return true;
        }

        private boolean closes(char letter) {
            if (open < 1 || closers[open - 1] != letter) {
                return false;
            }
            open--;
            return true;
        }
    }

    /** A program's letters without blanks; never changed, so tables may share it. */
    private static final class Script {
        private final char[] letters;

        Script(char[] letters) {
            this.letters = letters;
        }

        /** The letter at a place; behind the end a bracket that closes all. */
        char letter(int k) {
            return k < 0 || k >= letters.length ? ')' : letters[k];
        }

        boolean closesAt(int k) {
            return isCloser(letter(k));
        }

        /** The place of what closes the bracket that opens at a place. */
        int closerOf(int opener) {
            int open = 0;
            for (int k = opener; k < letters.length; k++) {
                if (letters[k] == '(' || letters[k] == '[' || letters[k] == '{') {
                    open++;
                } else if (isCloser(letters[k])) {
                    open--;
                }
                if (open == 0) {
                    return k;
                }
            }
            return letters.length;
        }

        private static boolean isCloser(char letter) {
            return letter == ')' || letter == ']' || letter == '}';
        }
    }

    /** Does a script alone, and keeps what it did until a trace is made of that. */
    private static final class Player {
        private static final int BROKE = -1;
        private static final int NOT_IN = 1, CALLED = 2, GATE_GONE = 3;

        private Script script = new Script(new char[0]);
        private int gone = 0;
        private final int[] kinds = new int[MOST_STEPS];
        private final int[] gates = new int[MOST_STEPS];
        private final int[] adds = new int[MOST_STEPS];
        private final int[] inside = new int[MOST_STEPS + 1];
        private int size = 0;
        private boolean tooLong = false;
        private final int[] stays = new int[GATES];
        private int insideNow = 0;
        private int staysNow = 0;
        private int mostStays = 0;
        private final int[] unsealed = new int[MOST_STEPS];
        private int unsealedSize = 0;
        private int why = 0;
        private int brokenBy = NONE;
        private int mended = 0;
        private int again = 0;

        /** Whether the script, alone and without the gates that are gone, keeps to the most steps. */
        boolean plays(Script told, int goneGates) {
            script = told;
            gone = goneGates;
            size = 0;
            tooLong = false;
            Arrays.fill(stays, 0);
            insideNow = 0;
            inside[0] = 0;
            staysNow = 0;
            mostStays = 0;
            unsealedSize = 0;
            why = 0;
            brokenBy = NONE;
            mended = 0;
            again = 0;
            if (doBody(0, 0) != BROKE) {
                why = 0;
                brokenBy = NONE;
            }
            return !tooLong;
        }

        /** Does the items from a place on: the place of what closes them, or BROKE. */
        private int doBody(int from, int depth) {
            if (depth > MOST_OPEN) {
                return BROKE;
            }
            int at = from;
            for (int items = 0; items < MOST_LETTERS && !script.closesAt(at); items++) {
                at = doOne(at, depth);
                if (at == BROKE) {
                    return BROKE;
                }
            }
            return at;
        }

        /** Does one item: the place behind it, or BROKE. */
        private int doOne(int at, int depth) {
            char letter = script.letter(at);
            if (letter == '!') {
                return breakBy(CALLED, NONE);
            }
            if (letter == '[') {
                return doTry(at, depth);
            }
            if (letter >= '2' && letter <= '5') {
                return doOften(at, letter - '0', depth);
            }
            if (isNoGate(letter - 'a')) {
                return BROKE;
            }
            if (script.letter(at + 1) == '(') {
                return doStay(at, letter - 'a', depth);
            }
            return doAdd(at, letter - 'a');
        }

        private int doStay(int at, int gate, int depth) {
            if (has(gone, gate)) {
                return breakBy(GATE_GONE, gate);
            }
            int mark = unsealedSize;
            enter(gate);
            int end = doBody(at + 2, depth + 1);
            if (end == BROKE) {
                takeBack(mark);
                leave(gate);
                return BROKE;
            }
            leave(gate);
            unsealedSize = mark;
            return tooLong ? BROKE : end + 1;
        }

        private int doAdd(int at, int gate) {
            if (stays[gate] == 0) {
                return breakBy(NOT_IN, gate);
            }
            int figure = script.letter(at + 2) - '0';
            int amount = script.letter(at + 1) == '-' ? -figure : figure;
            note(ADD, gate, amount);
            if (tooLong || unsealedSize >= MOST_STEPS) {
                return BROKE;
            }
            unsealed[unsealedSize] = size - 1;
            unsealedSize++;
            return at + 3;
        }

        private int doTry(int at, int depth) {
            int mark = unsealedSize;
            int end = doBody(at + 1, depth + 1);
            if (end != BROKE) {
                return end + 1;
            }
            takeBack(mark);
            mended++;
            // What is too long is refused whole: no try mends that.
            return tooLong ? BROKE : script.closerOf(at) + 1;
        }

        private int doOften(int at, int times, int depth) {
            int end = BROKE;
            for (int k = 0; k < times; k++) {
                int stepsAhead = size;
                int mendedAhead = mended;
                end = doBody(at + 2, depth + 1);
                if (end == BROKE) {
                    return BROKE;
                }
                if (size == stepsAhead) {
                    // Each time more would do the same, nothing but mending: it need not be done.
                    mended += (mended - mendedAhead) * (times - 1 - k);
                    return end + 1;
                }
            }
            return end + 1;
        }

        private int breakBy(int reason, int gate) {
            why = reason;
            brokenBy = gate;
            return BROKE;
        }

        private void enter(int gate) {
            if (stays[gate] > 0) {
                again++;
            }
            stays[gate]++;
            insideNow |= bit(gate);
            staysNow++;
            mostStays = Math.max(mostStays, staysNow);
            note(ENTER, gate, 0);
        }

        private void leave(int gate) {
            stays[gate]--;
            if (stays[gate] == 0) {
                insideNow &= ~bit(gate);
            }
            staysNow--;
            note(LEAVE, gate, 0);
        }

        private void takeBack(int mark) {
            for (int k = unsealedSize - 1; k >= mark; k--) {
                int place = unsealed[k];
                note(ADD, gates[place], -adds[place]);
            }
            unsealedSize = mark;
        }

        private void note(int kind, int gate, int amount) {
            if (size >= MOST_STEPS) {
                tooLong = true;
                return;
            }
            kinds[size] = kind;
            gates[size] = gate;
            adds[size] = amount;
            size++;
            inside[size] = insideNow;
        }
    }

    /** What a task does alone; never changed, so tables may share it. */
    private static final class Trace {
        private final int size;
        private final int[] kinds;
        private final int[] gates;
        private final int[] adds;
        private final int[] inside;
        private final int why;
        private final int brokenBy;
        private final int mended;
        private final int again;
        private final int mostStays;

        Trace(Player player) {
            size = player.size;
            kinds = Arrays.copyOf(player.kinds, size);
            gates = Arrays.copyOf(player.gates, size);
            adds = Arrays.copyOf(player.adds, size);
            inside = Arrays.copyOf(player.inside, size + 1);
            why = player.why;
            brokenBy = player.brokenBy;
            mended = player.mended;
            again = player.again;
            mostStays = player.mostStays;
        }

        int length() {
            return size;
        }

        boolean breaks() {
            return why != 0;
        }

        boolean hasStep(int k) {
            return k >= 0 && k < size;
        }

        int kindAt(int k) {
            return hasStep(k) ? kinds[k] : NONE;
        }

        int gateAt(int k) {
            return hasStep(k) ? gates[k] : NONE;
        }

        int addAt(int k) {
            return hasStep(k) ? adds[k] : 0;
        }

        /** Adds what the first steps add, or takes it back by sign -1. */
        void addTo(int[] cells, int steps, int sign) {
            for (int k = 0; k < steps && k < size; k++) {
                if (gates[k] < cells.length) {
                    cells[gates[k]] += sign * adds[k];
                }
            }
        }

        /** The gates that the task is in when so many steps are done. */
        int insideAt(int done) {
            return done < 0 || done > size ? 0 : inside[done];
        }

        /** The gate that the next step enters when so many steps are done, or NONE. */
        int entersAt(int done) {
            return kindAt(done) == ENTER ? gates[done] : NONE;
        }

        /** Whether there is a next step that may be done while others are in those gates. */
        boolean canGo(int done, int taken) {
            int gate = entersAt(done);
            return hasStep(done) && (gate == NONE || !has(taken, gate));
        }

        int summary(int what) {
            switch (what) {
                case 0:
                    return size;
                case 1:
                    return why;
                case 2:
                    return brokenBy;
                case 3:
                    return mended;
                case 4:
                    return again;
                case 5:
                    return mostStays;
                default:
                    return BAD;
            }
        }

        int detail(int k, int what) {
            if (!hasStep(k)) {
                return BAD;
            }
            switch (what) {
                case 0:
                    return kinds[k];
                case 1:
                    return gates[k];
                case 2:
                    return adds[k] + 10;
                default:
                    return BAD;
            }
        }
    }

    /** All that may be undone: programs, gates, tasks, the rule, the draw. */
    private static final class Table {
        private static final int DONE = 0, WAITS = 1, ENDS = 2, BREAKS = 3, IN_RING = 4, FIRST_VICTIM = 10;
        private static final int CELL_SHIFT = 1000000;

        private final Script[] scripts = new Script[TASKS];
        private final Trace[] traces = new Trace[TASKS];
        private int gone = 0;
        private int rule = 0;
        private int draw = 1;
        private int begun = 0;
        private final int[] cells = new int[GATES];
        private final int[] holders = new int[GATES];
        private final int[] holds = new int[GATES];
        private final int[] states = new int[TASKS];
        private final int[] done = new int[TASKS];
        private final int[] awaited = new int[TASKS];
        private final int[] ages = new int[TASKS];
        private final int[] fallen = new int[TASKS];

        Table(Script script, Trace trace) {
            Arrays.fill(holders, NONE);
            Arrays.fill(awaited, NONE);
            Arrays.fill(ages, NONE);
            for (int t = 0; t < TASKS; t++) {
                scripts[t] = script;
                traces[t] = trace;
            }
        }

        void become(Table other) {
            gone = other.gone;
            rule = other.rule;
            draw = other.draw;
            begun = other.begun;
            for (int g = 0; g < GATES; g++) {
                cells[g] = other.cells[g];
                holders[g] = other.holders[g];
                holds[g] = other.holds[g];
            }
            for (int t = 0; t < TASKS; t++) {
                scripts[t] = other.scripts[t];
                traces[t] = other.traces[t];
                states[t] = other.states[t];
                done[t] = other.done[t];
                awaited[t] = other.awaited[t];
                ages[t] = other.ages[t];
                fallen[t] = other.fallen[t];
            }
        }

        // -- what it is

        Script script(int t) {
            return scripts[t];
        }

        Trace trace(int t) {
            return traces[t];
        }

        int goneGates() {
            return gone;
        }

        int ruleNow() {
            return rule;
        }

        int stepsDone(int t) {
            return done[t];
        }

        boolean isOver(int t) {
            return states[t] == ENDED || states[t] == BROKEN;
        }

        boolean isWaiting(int t) {
            return states[t] == WAITING;
        }

        boolean isBusy() {
            return (tasksThatAre(GOING) | tasksThatAre(WAITING)) != 0;
        }

        boolean isUntouched() {
            return tasksThatAre(IDLE) == bit(TASKS) - 1 && begun == 0;
        }

        int tasksThatAre(int state) {
            int set = 0;
            for (int t = 0; t < TASKS; t++) {
                if (states[t] == state) {
                    set |= bit(t);
                }
            }
            return set;
        }

        int tasksLeft() {
            return tasksThatAre(IDLE) | tasksThatAre(GOING) | tasksThatAre(WAITING);
        }

        int tellGate(int g, int what) {
            switch (what) {
                case 0:
                    return cells[g] + CELL_SHIFT;
                case 1:
                    return holders[g];
                case 2:
                    return holds[g];
                case 3:
                    return has(gone, g) ? 1 : 0;
                case 4:
                    return tasksThatAwait(g);
                default:
                    return BAD;
            }
        }

        int tellTask(int t, int what) {
            switch (what) {
                case 0:
                    return states[t];
                case 1:
                    return done[t];
                case 2:
                    return gatesOf(t);
                case 3:
                    return awaited[t];
                case 4:
                    return ages[t];
                case 5:
                    return fallen[t];
                case 6:
                    return ringOf(t) != 0 ? 1 : 0;
                default:
                    return BAD;
            }
        }

        int tellAll(int what) {
            switch (what) {
                case 0:
                    return rule;
                case 1:
                case 2:
                case 3:
                case 4:
                    return tasksThatAre(what);
                case 5:
                    return tasksInRings();
                case 6:
                    return gone;
                case 7:
                    return begun;
                default:
                    return BAD;
            }
        }

        private int tasksThatAwait(int g) {
            int set = 0;
            for (int t = 0; t < TASKS; t++) {
                if (awaited[t] == g) {
                    set |= bit(t);
                }
            }
            return set;
        }

        private int gatesOf(int t) {
            int set = 0;
            for (int g = 0; g < GATES; g++) {
                if (holders[g] == t) {
                    set |= 1 << g;
                }
            }
            return set;
        }

        private int tasksInRings() {
            int set = 0;
            for (int t = 0; t < TASKS; t++) {
                set |= ringOf(t);
            }
            return set;
        }

        /** The tasks of the ring that a task is in, or none. */
        private int ringOf(int t) {
            int set = 0;
            int at = t;
            for (int k = 0; k < TASKS && at != NONE; k++) {
                set |= bit(at);
                at = blockerOf(at);
                if (at == t) {
                    return set;
                }
            }
            return 0;
        }

        /** The task that holds what a task waits for, or NONE. */
        private int blockerOf(int t) {
            int gate = awaited[t];
            return isNoGate(gate) ? NONE : holders[gate];
        }

        // -- what changes it

        void changeProgram(int t, Script script, Trace trace) {
            scripts[t] = script;
            traces[t] = trace;
            rest(t);
        }

        void changeGates(int goneGates, Trace[] then) {
            gone = goneGates;
            for (int t = 0; t < TASKS && t < then.length; t++) {
                traces[t] = then[t];
                rest(t);
            }
        }

        void changeRule(int r) {
            rule = r;
        }

        int changeDraw(int v) {
            int was = draw;
            draw = v;
            return was;
        }

        void addWholeTrace(int t) {
            traces[t].addTo(cells, traces[t].length(), 1);
        }

        int layAnew() {
            int before = TASKS - Integer.bitCount(tasksThatAre(IDLE));
            for (int t = 0; t < TASKS; t++) {
                if (states[t] == GOING || states[t] == WAITING) {
                    withdraw(t);
                }
                rest(t);
                fallen[t] = 0;
            }
            begun = 0;
            return before;
        }

        void takeDrawnTurn() {
            int x = drawOnce();
            int left = tasksLeft();
            int m = Integer.bitCount(left);
            if (m == 0) {
                return;
            }
            int lesser = x % m;
            for (int t = 0; t < TASKS; t++) {
                if (has(left, t)) {
                    if (lesser == 0) {
                        takeTurn(t);
                        return;
                    }
                    lesser--;
                }
            }
        }

        void driftOnce() {
            int x = drawOnce();
            int kind = x % 8;
            int rest = x / 8;
            if (kind == 6) {
                if (!isUntouched()) {
                    layAnew();
                }
            } else if (kind == 7) {
                rule = rest % RULES;
            } else if (!isOver(rest % TASKS)) {
                takeTurn(rest % TASKS);
            }
        }

        /** A turn of a task that is not over. */
        int takeTurn(int t) {
            if (states[t] == IDLE) {
                ages[t] = begun;
                begun++;
            }
            int gate = traces[t].entersAt(done[t]);
            if (gate != NONE && holders[gate] != NONE && holders[gate] != t) {
                return awaitGate(t, gate);
            }
            doNextStep(t);
            awaited[t] = NONE;
            if (traces[t].hasStep(done[t])) {
                states[t] = GOING;
                return DONE;
            }
            states[t] = traces[t].breaks() ? BROKEN : ENDED;
            return states[t] == BROKEN ? BREAKS : ENDS;
        }

        private int drawOnce() {
            draw = (int) ((draw * 1103515245L + 12345L) & 0x7fffffffL);
            return draw / 65536;
        }

        private int awaitGate(int t, int gate) {
            states[t] = WAITING;
            awaited[t] = gate;
            int ring = ringOf(t);
            if (ring == 0) {
                return WAITS;
            }
            if (rule == 0) {
                return IN_RING;
            }
            int victim = chooseVictim(ring);
            withdraw(victim);
            rest(victim);
            fallen[victim]++;
            return FIRST_VICTIM + victim;
        }

        private void doNextStep(int t) {
            Trace trace = traces[t];
            int k = done[t];
            if (!trace.hasStep(k)) {
                return;
            }
            int gate = trace.gateAt(k);
            if (trace.kindAt(k) == ENTER) {
                holders[gate] = t;
                holds[gate]++;
            } else if (trace.kindAt(k) == LEAVE) {
                holds[gate]--;
                if (holds[gate] == 0) {
                    holders[gate] = NONE;
                }
            } else {
                cells[gate] += trace.addAt(k);
            }
            done[t] = k + 1;
        }

        private int chooseVictim(int ring) {
            int victim = NONE;
            for (int t = 0; t < TASKS; t++) {
                if (has(ring, t) && (victim == NONE || claim(t) > claim(victim))) {
                    victim = t;
                }
            }
            return victim;
        }

        /** The greater, the sooner the rule takes that task. */
        private int claim(int t) {
            switch (rule) {
                case 1:
                    return ages[t];
                case 2:
                    return -done[t];
                case 3:
                    return -Integer.bitCount(gatesOf(t));
                default:
                    return t;
            }
        }

        /** Takes back all that a task added since it began, and frees what it holds. */
        private void withdraw(int t) {
            traces[t].addTo(cells, done[t], -1);
            for (int g = 0; g < GATES; g++) {
                if (holders[g] == t) {
                    holders[g] = NONE;
                    holds[g] = 0;
                }
            }
        }

        private void rest(int t) {
            states[t] = IDLE;
            done[t] = 0;
            awaited[t] = NONE;
            ages[t] = NONE;
        }
    }

    /** The tables as they were ahead of what may be undone, the latest last. */
    private static final class History {
        private final Table[] kept = new Table[MOST_KNOWN];
        private int size = 0;

        History(Script script, Trace trace) {
            for (int k = 0; k < MOST_KNOWN; k++) {
                kept[k] = new Table(script, trace);
            }
        }

        int length() {
            return size;
        }

        void keep(Table now) {
            if (size == MOST_KNOWN) {
                loseOldest();
            }
            kept[size].become(now);
            size++;
        }

        void giveBack(Table now) {
            if (size > 0) {
                size--;
                now.become(kept[size]);
            }
        }

        void become(History other) {
            size = other.size;
            for (int k = 0; k < size; k++) {
                kept[k].become(other.kept[k]);
            }
        }

        private void loseOldest() {
            Table oldest = kept[0];
            for (int k = 1; k < MOST_KNOWN; k++) {
                kept[k - 1] = kept[k];
            }
            kept[MOST_KNOWN - 1] = oldest;
            size--;
        }
    }

    /** Which gates are ahead of which, by the traces of all tasks. */
    private static final class Order {
        private final int[] behind = new int[GATES];

        void read(Table table) {
            Arrays.fill(behind, 0);
            for (int t = 0; t < TASKS; t++) {
                readTrace(table.trace(t));
            }
        }

        boolean isAhead(int a, int b) {
            return has(behind[a], b);
        }

        int tellLoops(int what) {
            int shortest = NONE;
            int inLoops = 0;
            for (int g = 0; g < GATES; g++) {
                int length = loopThrough(g);
                if (length != NONE) {
                    inLoops |= bit(g);
                    shortest = shortest == NONE ? length : Math.min(shortest, length);
                }
            }
            if (what == 0) {
                return inLoops != 0 ? 1 : 0;
            }
            return what == 1 ? shortest : inLoops;
        }

        private void readTrace(Trace trace) {
            for (int k = 0; k < trace.length(); k++) {
                int entered = trace.entersAt(k);
                int inside = trace.insideAt(k);
                if (entered != NONE && !has(inside, entered)) {
                    for (int g = 0; g < GATES; g++) {
                        if (has(inside, g)) {
                            behind[g] |= bit(entered);
                        }
                    }
                }
            }
        }

        /** How many gates the shortest loop through a gate has, or NONE. */
        private int loopThrough(int gate) {
            int reached = bit(gate);
            for (int length = 1; length <= GATES; length++) {
                reached = behindAll(reached);
                if (has(reached, gate)) {
                    return length;
                }
            }
            return NONE;
        }

        private int behindAll(int set) {
            int next = 0;
            for (int g = 0; g < GATES; g++) {
                if (has(set, g)) {
                    next |= behind[g];
                }
            }
            return next;
        }
    }

    /** All ways of two traces together, counted and weighed in one pass over what both have done. */
    private static final class Pair {
        // No way draws more often than both have steps, so every weight stays a whole number.
        private static final int HALVINGS = 60;

        private final long[] ways = new long[MOST_STEPS + 1];
        private final long[] weights = new long[MOST_STEPS + 1];
        private long doneWays = 0;
        private long stuckWays = 0;
        private long stuckWeight = 0;
        private int nearest = NONE;
        private Trace one;
        private Trace two;

        Pair(Trace still) {
            one = still;
            two = still;
        }

        long waysDone() {
            return doneWays;
        }

        long waysStuck() {
            return stuckWays;
        }

        int nearestStuck() {
            return nearest;
        }

        long oddsAbove() {
            return stuckWeight >> commonHalvings();
        }

        long oddsBelow() {
            return (1L << HALVINGS) >> commonHalvings();
        }

        void goAllWays(Trace first, Trace second) {
            one = first;
            two = second;
            doneWays = 0;
            stuckWays = 0;
            stuckWeight = 0;
            nearest = NONE;
            Arrays.fill(ways, 0L);
            Arrays.fill(weights, 0L);
            ways[0] = 1L;
            weights[0] = 1L << HALVINGS;
            for (int p = 0; p <= first.length(); p++) {
                for (int q = 0; q <= second.length(); q++) {
                    if (ways[q] != 0) {
                        goOn(p, q);
                    }
                }
            }
        }

        /** From p and q steps done on: what stays at q is for p + 1, what goes to q + 1 is for p. */
        private void goOn(int p, int q) {
            long count = ways[q];
            long weight = weights[q];
            boolean oneCan = one.canGo(p, two.insideAt(q));
            boolean twoCan = two.canGo(q, one.insideAt(p));
            long share = oneCan && twoCan ? weight / 2 : weight;
            if (!oneCan) {
                ways[q] = 0;
                weights[q] = 0;
            } else {
                weights[q] = share;
            }
            if (twoCan && q < MOST_STEPS) {
                ways[q + 1] += count;
                weights[q + 1] += share;
            }
            if (!oneCan && !twoCan) {
                endWays(p, q, count, weight);
            }
        }

        private void endWays(int p, int q, long count, long weight) {
            if (p == one.length() && q == two.length()) {
                doneWays += count;
                return;
            }
            stuckWays += count;
            stuckWeight += weight;
            nearest = nearest == NONE ? p + q : Math.min(nearest, p + q);
        }

        private int commonHalvings() {
            int common = 0;
            while (common < HALVINGS && (stuckWeight >> common) % 2 == 0) {
                common++;
            }
            return common;
        }
    }

    /** A sheet: nothing, or a row of a lane. */
    private static final class Sheet {
        private static final int MISSING = -1;

        private int size = MISSING;
        private int lane = 0;
        private final long[] items = new long[MOST_ITEMS];

        boolean isMissing() {
            return size == MISSING;
        }

        boolean isLike(Sheet other) {
            return lane == other.lane;
        }

        boolean hasRoom(int i, int n) {
            return n >= 0 && i >= 0 && i <= size - n;
        }

        /** What the machine finds when n items from i on are used as a row of a lane. */
        int find(int asLane, int i, int n) {
            if (isMissing()) {
                return NULL;
            }
            if (asLane != lane) {
                return CAST;
            }
            return hasRoom(i, n) ? FINE : INDEX;
        }

        void begin(int newLane, int n) {
            lane = newLane;
            size = n;
            Arrays.fill(items, 0L);
        }

        int end() {
            int had = size;
            size = MISSING;
            return had;
        }

        void put(int i, long v) {
            if (!hasRoom(i, 1)) {
                return;
            }
            switch (lane) {
                case 0:
                    items[i] = (byte) v;
                    break;
                case 1:
                    items[i] = (short) v;
                    break;
                case 2:
                    items[i] = (int) v;
                    break;
                default:
                    items[i] = v;
                    break;
            }
        }

        void give(int i, Sheet target, int j, int n) {
            System.arraycopy(items, i, target.items, j, n);
        }

        /** The task that an item tells, or NONE. */
        int taskAt(int i) {
            if (!hasRoom(i, 1) || items[i] < 0 || items[i] >= TASKS) {
                return NONE;
            }
            return (int) items[i];
        }

        boolean tellsTasks(int i, int n) {
            for (int k = 0; k < n; k++) {
                if (taskAt(i + k) == NONE) {
                    return false;
                }
            }
            return true;
        }
    }
}
