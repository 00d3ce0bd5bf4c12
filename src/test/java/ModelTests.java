import java.math.BigInteger;
import java.util.ArrayDeque;
import java.util.ArrayList;
import java.util.Arrays;
import java.util.Deque;
import java.util.HashMap;
import java.util.List;
import java.util.Map;
import java.util.Random;

/** Random runs of calls, each answer held against a second model that is written as plainly as the document. */
public final class ModelTests {
    private static final int RUNS = 3000, CALLS = 512;
    private static final Map<String, Integer> seen = new HashMap<>();
    private static long answers = 0;

    public static void main(String[] args) {
        int runs = args.length > 0 ? Integer.parseInt(args[0]) : RUNS;
        long first = args.length > 1 ? Long.parseLong(args[1]) : 1;
        int wrong = 0;
        for (int k = 0; k < runs && wrong < 5; k++) {
            if (!new Run(first + k).isRight()) {
                wrong++;
            }
        }
        System.out.println(answers + " answers held against the model, " + wrong + " runs wrong");
        boolean rich = wrong != 0 || runs < RUNS || isRich();
        if (wrong != 0 || !rich) {
            System.exit(1);
        }
    }

    /** Whether the runs came to what they are for: no kind of answer is missing. */
    private static boolean isRich() {
        String[] due = {"turn 0", "turn 1", "turn 2", "turn 3", "turn 4", "turn 10", "turn 11", "turn 12", "turn 13",
            "turn -2", "program -3", "program -2", "program -20", "program 30", "gone -3", "gone 0", "gone 1", "gone -2",
            "run -2", "lay -2", "lay 0", "lay 4", "undo -4", "undo 5", "restore -4", "restore 1", "ahead 1", "ahead 0",
            "loops 6", "loops 3", "loops 2", "near 2", "near 5", "near -4", "go 40", "go 0", "tried -2", "tried 24",
            "tried 0", "tried -11", "tried -12", "tried -13", "film 4", "film -13", "copy -13", "copy 5", "copy -12"};
        boolean rich = true;
        for (String one : due) {
            if (seen.getOrDefault(one, 0) == 0) {
                System.out.println("no run answered: " + one);
                rich = false;
            }
        }
        return rich;
    }

    /** One object and its model, and the calls on both. */
    private static final class Run {
        private final Random random;
        private final long number;
        private final GateTable table = new GateTable();
        private final Model model = new Model();
        private final StringBuilder log = new StringBuilder();
        private int calls = 0;
        private boolean right = true;

        Run(long number) {
            this.number = number;
            this.random = new Random(number * 7919);
        }

        boolean isRight() {
            if (random.nextInt(4) != 0) {
                for (int t = 0; t < 4; t++) {
                    tellProgram(t);
                }
            }
            while (calls < CALLS && right) {
                someCall();
            }
            return right;
        }

        private void hold(String call, long got, long want) {
            calls++;
            answers++;
            log.append(call).append(" -> ").append(got).append('\n');
            String name = call.substring(0, call.indexOf('('));
            seen.merge(name + " " + got, 1, Integer::sum);
            if (got != want && right) {
                right = false;
                System.out.println("run " + number + ", call " + calls + ": " + call + " answered " + got + ", the model "
                    + want + "; the run:\n" + log);
            }
        }

        private int below(int n) {
            return random.nextInt(n);
        }

        /** A number of 0 .. n - 1, seldom one outside of that. */
        private int about(int n) {
            int dice = below(60);
            return dice == 0 ? n : dice == 1 ? -1 : dice == 2 ? random.nextInt() : below(n);
        }

        private void tellProgram(int task) {
            String text = Texts.some(random);
            for (int k = 0; k < text.length() && calls < CALLS; k++) {
                char letter = text.charAt(k);
                hold("type(" + (int) letter + ")", table.type(letter), model.type(letter));
            }
            if (calls < CALLS) {
                hold("program(" + task + ")", table.program(task), model.program(task));
            }
        }

        private void someCall() {
            int dice = below(100);
            if (dice < 4) {
                tellProgram(about(4));
            } else if (dice < 46) {
                tableCall(dice % 16);
            } else if (dice < 72) {
                askCall(dice % 11);
            } else if (dice < 80) {
                doneCall();
            } else {
                sheetCall();
            }
        }

        private void tableCall(int dice) {
            if (dice < 10) {
                int t = about(4);
                hold("turn(" + t + ")", table.turn(t), model.turn(t));
            } else if (dice < 11) {
                int n = below(3) == 0 ? about(42) : 1 + below(12);
                hold("go(" + n + ")", table.go(n), model.go(n));
            } else if (dice < 12) {
                int g = about(6);
                hold("gone(" + g + ")", table.gone(g), model.gone(g));
            } else if (dice < 13) {
                int t = about(4);
                hold("run(" + t + ")", table.run(t), model.run(t));
            } else if (dice < 14) {
                hold("lay()", table.lay(), model.lay());
            } else {
                int r = about(5);
                hold("rule(" + r + ")", table.rule(r), model.rule(r));
            }
            if (below(3) == 0) {
                lookAtAll();
            }
        }

        private void lookAtAll() {
            int t = below(4);
            for (int what = 0; what < 7 && calls < CALLS; what++) {
                hold("task(" + t + "," + what + ")", table.task(t, what), model.task(t, what));
            }
            int g = below(6);
            for (int what = 0; what < 5 && calls < CALLS; what++) {
                hold("gate(" + g + "," + what + ")", table.gate(g, what), model.gate(g, what));
            }
        }

        private void askCall(int dice) {
            int a = about(4);
            int b = about(4);
            switch (dice) {
                case 0: {
                    int what = about(6);
                    hold("alone(" + a + "," + what + ")", table.alone(a, what), model.alone(a, what));
                    break;
                }
                case 1: {
                    int k = about(12);
                    int what = about(3);
                    hold("step(" + a + "," + k + "," + what + ")", table.step(a, k, what), model.step(a, k, what));
                    break;
                }
                case 2: {
                    int g = about(6);
                    int what = about(5);
                    hold("gate(" + g + "," + what + ")", table.gate(g, what), model.gate(g, what));
                    break;
                }
                case 3: {
                    int what = about(7);
                    hold("task(" + a + "," + what + ")", table.task(a, what), model.task(a, what));
                    break;
                }
                case 4:
                case 5: {
                    int what = about(9);
                    hold("count(" + what + ")", table.count(what), model.count(what));
                    break;
                }
                case 6: {
                    int g = about(6);
                    int h = about(6);
                    hold("ahead(" + g + "," + h + ")", table.ahead(g, h), model.ahead(g, h));
                    break;
                }
                case 7: {
                    int what = about(3);
                    hold("loops(" + what + ")", table.loops(what), model.loops(what));
                    break;
                }
                case 8: {
                    int what = about(2);
                    hold("ways(" + a + "," + b + "," + what + ")", table.ways(a, b, what), model.ways(a, b, what));
                    break;
                }
                case 9: {
                    int what = about(2);
                    hold("odds(" + a + "," + b + "," + what + ")", table.odds(a, b, what), model.odds(a, b, what));
                    break;
                }
                default:
                    hold("near(" + a + "," + b + ")", table.near(a, b), model.near(a, b));
                    break;
            }
        }

        private void doneCall() {
            int dice = below(10);
            if (dice < 2) {
                int n = below(2) == 0 ? about(42) : 1 + below(6);
                hold("drift(" + n + ")", table.drift(n), model.drift(n));
            } else if (dice < 6) {
                hold("undo()", table.undo(), model.undo());
            } else if (dice < 7) {
                int v = random.nextInt() & (below(5) == 0 ? -1 : Integer.MAX_VALUE);
                hold("seed(" + v + ")", table.seed(v), model.seed(v));
            } else if (dice < 8) {
                hold("image()", table.image(), model.image());
            } else {
                hold("restore()", table.restore(), model.restore());
            }
        }

        private void sheetCall() {
            int s = about(3);
            int lane = s >= 0 && s < 4 && below(8) != 0 ? model.laneOf(s) : about(4);
            int i = below(3) == 0 ? about(25) : below(6);
            int n = below(3) == 0 ? about(25) : 1 + below(8);
            switch (below(9)) {
                case 0:
                    n = below(2) == 0 ? 24 : n;
                    hold("sheet(" + s + "," + lane + "," + n + ")", table.sheet(s, lane, n), model.sheet(s, lane, n));
                    break;
                case 1:
                    if (below(8) == 0) {
                        hold("drop(" + s + ")", table.drop(s), model.drop(s));
                    }
                    break;
                case 2:
                case 3: {
                    long v = below(5) == 0 ? random.nextLong() : below(8) == 0 ? 65536L * 65536L * 256L + below(4) : below(4);
                    hold("item(" + s + "," + lane + "," + i + "," + v + ")", table.item(s, lane, i, v), model.item(s, lane, i, v));
                    break;
                }
                case 4: {
                    int to = about(3);
                    int j = about(25);
                    hold("copy(" + s + "," + i + "," + to + "," + j + "," + n + ")", table.copy(s, i, to, j, n), model.copy(s, i, to, j, n));
                    break;
                }
                case 5:
                    hold("film(" + s + "," + lane + "," + i + ")", table.film(s, lane, i), model.film(s, lane, i));
                    break;
                default:
                    if (below(4) == 0) {
                        i = 0;
                        n = 24;
                    }
                    hold("tried(" + s + "," + lane + "," + i + "," + n + ")", table.tried(s, lane, i, n), model.tried(s, lane, i, n));
                    break;
            }
        }
    }

    /** Texts of programs, most of them sound. */
    private static final class Texts {
        static String some(Random random) {
            String text = body(random, 0, new ArrayList<>());
            if (random.nextInt(12) == 0) {
                text = "[" + text + "]" + body(random, 0, new ArrayList<>());
            }
            if (random.nextInt(6) == 0) {
                int n = 3 + random.nextInt(3);
                StringBuilder row = new StringBuilder();
                for (int k = 0; k < n; k++) {
                    int g = random.nextInt(6);
                    row.append((char) ('a' + g)).append('(').append((char) ('a' + (g + 1) % 6)).append("())");
                }
                text = row.toString();
            }
            if (random.nextInt(10) == 0 && !text.isEmpty()) {
                text = spoilt(random, text);
            }
            if (random.nextInt(5) == 0) {
                text = text.replace("(", " ( ").replace("+", "+ ");
            }
            return text.length() > 60 ? text.substring(0, random.nextInt(5) == 0 ? 61 : 60) : text;
        }

        private static String spoilt(Random random, String text) {
            int at = random.nextInt(text.length());
            char letter = (char) (random.nextInt(3) == 0 ? 32 + random.nextInt(95) : "abf()[]{}123569+-! ".charAt(random.nextInt(19)));
            int how = random.nextInt(3);
            return text.substring(0, at) + (how == 0 ? "" : "" + letter) + text.substring(how == 1 ? at : at + 1);
        }

        private static String body(Random random, int depth, List<Integer> in) {
            StringBuilder text = new StringBuilder();
            int n = depth == 0 ? 1 + random.nextInt(2) : random.nextInt(4);
            for (int k = 0; k < n; k++) {
                text.append(item(random, depth, in));
            }
            return text.toString();
        }

        private static String item(Random random, int depth, List<Integer> in) {
            int dice = random.nextInt(20);
            int gate = random.nextInt(random.nextInt(3) == 0 ? 6 : 3);
            if (dice < 9 && depth < (random.nextInt(20) == 0 ? 7 : 5)) {
                in.add(gate);
                String text = (char) ('a' + gate) + "(" + body(random, depth + 1, in) + ")";
                in.remove(in.size() - 1);
                return text;
            }
            if (dice < 11 && depth < 5) {
                return "[" + body(random, depth + 1, in) + "]";
            }
            if (dice < 12 && depth < 5) {
                return (2 + random.nextInt(4)) + "{" + body(random, depth + 1, in) + "}";
            }
            if (dice < 13) {
                return "!";
            }
            int added = in.isEmpty() || random.nextInt(12) == 0 ? gate : in.get(random.nextInt(in.size()));
            return (char) ('a' + added) + (random.nextBoolean() ? "+" : "-") + (1 + random.nextInt(9));
        }
    }

    // ---- the model

    private static final int BAD = -1, NOT = -2, FULL = -3, NONE = -4, NULL = -11, CAST = -12, INDEX = -13, SIZE = -14;

    private static final class Fault extends RuntimeException {
        final int place;

        Fault(int place) {
            super(null, null, false, false);
            this.place = place;
        }
    }

    private static final class Broke extends RuntimeException {
        final int why;
        final int gate;

        Broke(int why, int gate) {
            super(null, null, false, false);
            this.why = why;
            this.gate = gate;
        }
    }

    private static final class TooLong extends RuntimeException {
        TooLong() {
            super(null, null, false, false);
        }
    }

    /** An item: '(' a stay, '+' adds, '!' breaks, '[' a try, '{' often. */
    private static final class Node {
        char kind;
        int gate;
        int number;
        List<Node> body = new ArrayList<>();
    }

    private static final class Parser {
        private final String text;
        private int at = 0;
        private int open = 0;

        Parser(String text) {
            this.text = text;
        }

        List<Node> all() {
            List<Node> body = body();
            if (peek() != 0) {
                throw new Fault(at);
            }
            return body;
        }

        private char peek() {
            while (at < text.length() && text.charAt(at) == ' ') {
                at++;
            }
            return at < text.length() ? text.charAt(at) : 0;
        }

        private char take(String allowed) {
            char letter = peek();
            if (letter == 0 || allowed.indexOf(letter) < 0) {
                throw new Fault(at);
            }
            at++;
            return letter;
        }

        private List<Node> body() {
            List<Node> items = new ArrayList<>();
            while (peek() != 0 && "abcdef![2345".indexOf(peek()) >= 0) {
                items.add(item());
            }
            return items;
        }

        private void bracket(Node node, String opener, String closer) {
            if (opener.indexOf(peek()) >= 0 && open == 6) {
                throw new Fault(at);
            }
            node.kind = take(opener);
            open++;
            node.body = body();
            take(closer);
            open--;
        }

        private Node item() {
            Node node = new Node();
            char letter = peek();
            if (letter == '[') {
                bracket(node, "[", "]");
                return node;
            }
            at++;
            if (letter == '!') {
                node.kind = '!';
            } else if (letter >= '2' && letter <= '5') {
                node.number = letter - '0';
                bracket(node, "{", "}");
            } else {
                node.gate = letter - 'a';
                if (peek() == '(') {
                    bracket(node, "(", ")");
                } else {
                    char sign = take("+-");
                    int figure = take("123456789") - '0';
                    node.kind = '+';
                    node.number = sign == '-' ? -figure : figure;
                }
            }
            return node;
        }
    }

    private static final class Added {
        int gate;
        int amount;
        boolean over;
    }

    /** What a program does alone: steps of kind, gate, amount. */
    private static final class Alone {
        final List<int[]> steps = new ArrayList<>();
        final List<Added> added = new ArrayList<>();
        final List<Integer> stays = new ArrayList<>();
        final int gone;
        int why = 0;
        int gate = NONE;
        int mended = 0;
        int again = 0;
        int most = 0;

        Alone(List<Node> program, int gone) {
            this.gone = gone;
            try {
                body(program);
            } catch (Broke broke) {
                why = broke.why;
                gate = broke.gate;
            }
        }

        private void step(int kind, int gate, int amount) {
            if (steps.size() == 30) {
                throw new TooLong();
            }
            steps.add(new int[] {kind, gate, amount});
        }

        private void takeBack(int from) {
            for (int k = added.size() - 1; k >= from; k--) {
                Added one = added.get(k);
                if (!one.over) {
                    step(2, one.gate, -one.amount);
                    one.over = true;
                }
            }
        }

        private void body(List<Node> items) {
            for (Node node : items) {
                item(node);
            }
        }

        private void item(Node node) {
            if (node.kind == '!') {
                throw new Broke(2, NONE);
            } else if (node.kind == '+') {
                if (!stays.contains(node.gate)) {
                    throw new Broke(1, node.gate);
                }
                step(2, node.gate, node.number);
                Added one = new Added();
                one.gate = node.gate;
                one.amount = node.number;
                added.add(one);
            } else if (node.kind == '{') {
                for (int k = 0; k < node.number; k++) {
                    body(node.body);
                }
            } else if (node.kind == '[') {
                int from = added.size();
                try {
                    body(node.body);
                } catch (Broke broke) {
                    takeBack(from);
                    mended++;
                }
            } else {
                stay(node);
            }
        }

        private void stay(Node node) {
            if ((gone >> node.gate & 1) == 1) {
                throw new Broke(3, node.gate);
            }
            if (stays.contains(node.gate)) {
                again++;
            }
            int from = added.size();
            step(0, node.gate, 0);
            stays.add(node.gate);
            most = Math.max(most, stays.size());
            try {
                body(node.body);
            } catch (Broke broke) {
                takeBack(from);
                step(1, node.gate, 0);
                stays.remove(stays.size() - 1);
                throw broke;
            }
            step(1, node.gate, 0);
            stays.remove(stays.size() - 1);
            for (int k = from; k < added.size(); k++) {
                added.get(k).over = true;
            }
        }

        /** The gates that it is in when so many steps are done. */
        int inside(int done) {
            int[] times = new int[6];
            for (int k = 0; k < done; k++) {
                times[steps.get(k)[1]] += steps.get(k)[0] == 0 ? 1 : steps.get(k)[0] == 1 ? -1 : 0;
            }
            int set = 0;
            for (int g = 0; g < 6; g++) {
                set |= times[g] > 0 ? 1 << g : 0;
            }
            return set;
        }

        boolean can(int done, int taken) {
            if (done == steps.size()) {
                return false;
            }
            int[] step = steps.get(done);
            return step[0] != 0 || (taken >> step[1] & 1) == 0;
        }
    }

    /** A task; what it holds is told by its steps alone. */
    private static final class TaskState {
        List<Node> program = new ArrayList<>();
        Alone alone = new Alone(program, 0);
        int state = 0;
        int done = 0;
        int waits = NONE;
        int age = NONE;
        int fallen = 0;

        TaskState twin() {
            TaskState twin = new TaskState();
            twin.program = program;
            twin.alone = alone;
            twin.state = state;
            twin.done = done;
            twin.waits = waits;
            twin.age = age;
            twin.fallen = fallen;
            return twin;
        }

        void rest() {
            state = 0;
            done = 0;
            waits = NONE;
            age = NONE;
        }

        int holds(int gate) {
            int times = 0;
            for (int k = 0; k < done; k++) {
                int[] step = alone.steps.get(k);
                if (step[1] == gate && step[0] != 2) {
                    times += step[0] == 0 ? 1 : -1;
                }
            }
            return times;
        }
    }

    private static final class World {
        TaskState[] tasks = new TaskState[4];
        int[] cells = new int[6];
        int gone = 0;
        int rule = 0;
        long draw = 1;
        int begun = 0;

        World twin() {
            World twin = new World();
            for (int t = 0; t < 4; t++) {
                twin.tasks[t] = tasks[t].twin();
            }
            twin.cells = cells.clone();
            twin.gone = gone;
            twin.rule = rule;
            twin.draw = draw;
            twin.begun = begun;
            return twin;
        }

        int holder(int gate) {
            for (int t = 0; t < 4; t++) {
                if (tasks[t].holds(gate) > 0) {
                    return t;
                }
            }
            return NONE;
        }

        int set(int state) {
            int set = 0;
            for (int t = 0; t < 4; t++) {
                set |= tasks[t].state == state ? 1 << t : 0;
            }
            return set;
        }

        boolean busy() {
            return (set(1) | set(2)) != 0;
        }

        boolean over(int t) {
            return tasks[t].state >= 3;
        }

        boolean waitsFor(int a, int b) {
            return tasks[a].state == 2 && tasks[b].holds(tasks[a].waits) > 0;
        }

        /** All rows of other tasks behind the first one are looked at. */
        int ring(int first, int last, int used) {
            if (last != first && waitsFor(last, first)) {
                return used;
            }
            for (int t = 0; t < 4; t++) {
                if ((used >> t & 1) == 0 && waitsFor(last, t)) {
                    int found = ring(first, t, used | 1 << t);
                    if (found != 0) {
                        return found;
                    }
                }
            }
            return 0;
        }

        int x() {
            draw = BigInteger.valueOf(draw).multiply(BigInteger.valueOf(1103515245)).add(BigInteger.valueOf(12345))
                .mod(BigInteger.ONE.shiftLeft(31)).longValue();
            return (int) (draw / 65536);
        }

        void back(TaskState task) {
            for (int k = 0; k < task.done; k++) {
                int[] step = task.alone.steps.get(k);
                cells[step[1]] -= step[2];
            }
        }

        int turn(int t) {
            TaskState task = tasks[t];
            if (task.state == 0) {
                task.age = begun++;
            }
            if (task.done < task.alone.steps.size()) {
                int[] step = task.alone.steps.get(task.done);
                int holder = holder(step[1]);
                if (step[0] == 0 && holder != NONE && holder != t) {
                    return waiting(t, step[1]);
                }
                cells[step[1]] += step[2];
                task.done++;
            }
            task.waits = NONE;
            task.state = 1;
            if (task.done == task.alone.steps.size()) {
                task.state = task.alone.why == 0 ? 3 : 4;
            }
            return task.state == 1 ? 0 : task.state - 1;
        }

        private int waiting(int t, int gate) {
            tasks[t].state = 2;
            tasks[t].waits = gate;
            int ring = ring(t, t, 1 << t);
            if (ring == 0) {
                return 1;
            }
            if (rule == 0) {
                return 4;
            }
            int victim = NONE;
            for (int v = 3; v >= 0; v--) {
                if ((ring >> v & 1) == 1 && (victim == NONE || !after(v, victim))) {
                    victim = v;
                }
            }
            back(tasks[victim]);
            tasks[victim].rest();
            tasks[victim].fallen++;
            return 10 + victim;
        }

        /** Whether the rule takes b rather than a, though a has the lesser number. */
        private boolean after(int a, int b) {
            TaskState one = tasks[a];
            TaskState two = tasks[b];
            switch (rule) {
                case 1:
                    return two.age > one.age;
                case 2:
                    return two.done < one.done;
                case 3:
                    return Integer.bitCount(two.alone.inside(two.done)) < Integer.bitCount(one.alone.inside(one.done));
                default:
                    return true;
            }
        }

        boolean untouched() {
            return set(0) == 15 && begun == 0;
        }

        int lay() {
            int count = 4 - Integer.bitCount(set(0));
            for (TaskState task : tasks) {
                if (task.state == 1 || task.state == 2) {
                    back(task);
                }
                task.rest();
                task.fallen = 0;
            }
            begun = 0;
            return count;
        }
    }

    private static final class Row {
        int lane;
        long[] items;
    }

    private static final class Model {
        private String tape = "";
        private World world = new World();
        private Deque<World> past = new ArrayDeque<>();
        private World image = null;
        private Deque<World> imagePast = null;
        private final Row[] rows = new Row[4];

        Model() {
            for (int t = 0; t < 4; t++) {
                world.tasks[t] = new TaskState();
            }
        }

        private void keep() {
            past.addLast(world.twin());
            if (past.size() > 6) {
                past.removeFirst();
            }
        }

        private static boolean no(int v, int n) {
            return v < 0 || v >= n;
        }

        int type(int letter) {
            if (letter < 32 || letter > 126) {
                return BAD;
            }
            if (tape.length() == 60) {
                return FULL;
            }
            tape += (char) letter;
            return tape.length();
        }

        int program(int t) {
            if (no(t, 4)) {
                return BAD;
            }
            String text = tape;
            tape = "";
            if (world.busy()) {
                return NOT;
            }
            try {
                List<Node> program = new Parser(text).all();
                Alone alone = new Alone(program, world.gone);
                keep();
                world.tasks[t].program = program;
                world.tasks[t].alone = alone;
                world.tasks[t].rest();
                return alone.steps.size();
            } catch (Fault fault) {
                return -20 - fault.place;
            } catch (TooLong tooLong) {
                return FULL;
            }
        }

        int gone(int g) {
            if (no(g, 6)) {
                return BAD;
            }
            if (world.busy()) {
                return NOT;
            }
            try {
                Alone[] then = new Alone[4];
                for (int t = 0; t < 4; t++) {
                    then[t] = new Alone(world.tasks[t].program, world.gone ^ 1 << g);
                }
                keep();
                world.gone ^= 1 << g;
                for (int t = 0; t < 4; t++) {
                    world.tasks[t].alone = then[t];
                    world.tasks[t].rest();
                }
                return world.gone >> g & 1;
            } catch (TooLong tooLong) {
                return FULL;
            }
        }

        int run(int t) {
            if (no(t, 4)) {
                return BAD;
            }
            if (world.busy()) {
                return NOT;
            }
            keep();
            for (int[] step : world.tasks[t].alone.steps) {
                world.cells[step[1]] += step[2];
            }
            return world.tasks[t].alone.steps.size();
        }

        int alone(int t, int what) {
            if (no(t, 4) || no(what, 6)) {
                return BAD;
            }
            Alone alone = world.tasks[t].alone;
            return new int[] {alone.steps.size(), alone.why, alone.gate, alone.mended, alone.again, alone.most}[what];
        }

        int step(int t, int k, int what) {
            if (no(t, 4) || no(what, 3) || no(k, world.tasks[t].alone.steps.size())) {
                return BAD;
            }
            return world.tasks[t].alone.steps.get(k)[what] + (what == 2 ? 10 : 0);
        }

        int rule(int r) {
            if (no(r, 5)) {
                return BAD;
            }
            if (world.rule == r) {
                return NOT;
            }
            keep();
            int was = world.rule;
            world.rule = r;
            return was;
        }

        int turn(int t) {
            if (no(t, 4)) {
                return BAD;
            }
            if (world.over(t)) {
                return NOT;
            }
            keep();
            return world.turn(t);
        }

        int go(int n) {
            if (no(n - 1, 40)) {
                return BAD;
            }
            int turns = 0;
            for (int k = 0; k < n; k++) {
                List<Integer> left = new ArrayList<>();
                for (int t = 0; t < 4; t++) {
                    if (!world.over(t)) {
                        left.add(t);
                    }
                }
                if (left.isEmpty()) {
                    break;
                }
                if (k == 0) {
                    keep();
                }
                world.turn(left.get(world.x() % left.size()));
                turns++;
            }
            return turns;
        }

        int lay() {
            if (world.untouched()) {
                return NOT;
            }
            keep();
            return world.lay();
        }

        int gate(int g, int what) {
            if (no(g, 6) || no(what, 5)) {
                return BAD;
            }
            int holder = world.holder(g);
            int waiting = 0;
            for (int t = 0; t < 4; t++) {
                waiting |= world.tasks[t].waits == g ? 1 << t : 0;
            }
            return new int[] {world.cells[g] + 1000000, holder, holder == NONE ? 0 : world.tasks[holder].holds(g),
                world.gone >> g & 1, waiting}[what];
        }

        int task(int t, int what) {
            if (no(t, 4) || no(what, 7)) {
                return BAD;
            }
            TaskState task = world.tasks[t];
            return new int[] {task.state, task.done, task.alone.inside(task.done), task.waits, task.age, task.fallen,
                world.ring(t, t, 1 << t) != 0 ? 1 : 0}[what];
        }

        int count(int what) {
            if (no(what, 9)) {
                return BAD;
            }
            int rings = 0;
            for (int t = 0; t < 4; t++) {
                rings |= world.ring(t, t, 1 << t) != 0 ? 1 << t : 0;
            }
            return new int[] {world.rule, world.set(1), world.set(2), world.set(3), world.set(4), rings, world.gone,
                world.begun, past.size()}[what];
        }

        private boolean isAhead(int a, int b) {
            for (TaskState task : world.tasks) {
                for (int k = 0; k < task.alone.steps.size(); k++) {
                    int[] step = task.alone.steps.get(k);
                    int in = task.alone.inside(k);
                    if (step[0] == 0 && step[1] == b && (in >> a & 1) == 1 && (in >> b & 1) == 0) {
                        return true;
                    }
                }
            }
            return false;
        }

        int ahead(int a, int b) {
            return no(a, 6) || no(b, 6) || a == b ? BAD : isAhead(a, b) ? 1 : 0;
        }

        /** Every loop from the first gate on, by all rows of different gates: best[0] the shortest, best[1] the gates. */
        private void loops(boolean[][] ahead, List<Integer> row, int[] best) {
            int last = row.get(row.size() - 1);
            if (row.size() > 1 && ahead[last][row.get(0)]) {
                best[0] = Math.min(best[0], row.size());
                for (int g : row) {
                    best[1] |= 1 << g;
                }
            }
            for (int g = 0; g < 6; g++) {
                if (!row.contains(g) && ahead[last][g]) {
                    row.add(g);
                    loops(ahead, row, best);
                    row.remove(row.size() - 1);
                }
            }
        }

        int loops(int what) {
            if (no(what, 3)) {
                return BAD;
            }
            boolean[][] ahead = new boolean[6][6];
            for (int a = 0; a < 6; a++) {
                for (int b = 0; b < 6; b++) {
                    ahead[a][b] = a != b && isAhead(a, b);
                }
            }
            int[] best = {99, 0};
            for (int g = 0; g < 6; g++) {
                loops(ahead, new ArrayList<>(Arrays.asList(g)), best);
            }
            return new int[] {best[1] != 0 ? 1 : 0, best[1] != 0 ? best[0] : NONE, best[1]}[what];
        }

        /** From p and q steps done on: ways done, ways stuck, odds above and below, steps to the nearest (or null). */
        private BigInteger[] from(Alone a, Alone b, int p, int q, Map<Integer, BigInteger[]> known) {
            BigInteger[] old = known.get(p * 100 + q);
            if (old != null) {
                return old;
            }
            boolean one = a.can(p, b.inside(q));
            boolean two = b.can(q, a.inside(p));
            BigInteger zero = BigInteger.ZERO;
            BigInteger unit = BigInteger.ONE;
            BigInteger[] all;
            if (one && two) {
                BigInteger[] x = from(a, b, p + 1, q, known);
                BigInteger[] y = from(a, b, p, q + 1, known);
                BigInteger near = x[4] == null ? y[4] : y[4] == null ? x[4] : x[4].min(y[4]);
                all = new BigInteger[] {x[0].add(y[0]), x[1].add(y[1]), x[2].multiply(y[3]).add(y[2].multiply(x[3])),
                    x[3].multiply(y[3]).multiply(BigInteger.TWO), near == null ? null : near.add(unit)};
                BigInteger common = all[2].gcd(all[3]);
                all[2] = all[2].divide(common);
                all[3] = all[3].divide(common);
            } else if (one || two) {
                all = from(a, b, one ? p + 1 : p, one ? q : q + 1, known).clone();
                all[4] = all[4] == null ? null : all[4].add(unit);
            } else if (p == a.steps.size() && q == b.steps.size()) {
                all = new BigInteger[] {unit, zero, zero, unit, null};
            } else {
                all = new BigInteger[] {zero, unit, unit, unit, zero};
            }
            known.put(p * 100 + q, all);
            return all;
        }

        private BigInteger[] pair(int i, int j) {
            return from(world.tasks[i].alone, world.tasks[j].alone, 0, 0, new HashMap<>());
        }

        long ways(int i, int j, int what) {
            return no(i, 4) || no(j, 4) || i == j || no(what, 2) ? BAD : pair(i, j)[what].longValueExact();
        }

        long odds(int i, int j, int what) {
            return no(i, 4) || no(j, 4) || i == j || no(what, 2) ? BAD : pair(i, j)[2 + what].longValueExact();
        }

        int near(int i, int j) {
            if (no(i, 4) || no(j, 4) || i == j) {
                return BAD;
            }
            BigInteger near = pair(i, j)[4];
            return near == null ? NONE : near.intValueExact();
        }

        int drift(int n) {
            if (no(n - 1, 40)) {
                return BAD;
            }
            for (int k = 0; k < n; k++) {
                keep();
                int x = world.x();
                if (x % 8 == 7) {
                    world.rule = x / 8 % 5;
                } else if (x % 8 == 6) {
                    if (!world.untouched()) {
                        world.lay();
                    }
                } else if (!world.over(x / 8 % 4)) {
                    world.turn(x / 8 % 4);
                }
            }
            return world.set(0);
        }

        int undo() {
            if (past.isEmpty()) {
                return NONE;
            }
            world = past.removeLast();
            return past.size();
        }

        int seed(int v) {
            if (v < 0) {
                return BAD;
            }
            int was = (int) world.draw;
            world.draw = v;
            return was;
        }

        private static Deque<World> twins(Deque<World> worlds) {
            Deque<World> twins = new ArrayDeque<>();
            for (World one : worlds) {
                twins.addLast(one.twin());
            }
            return twins;
        }

        int image() {
            image = world.twin();
            imagePast = twins(past);
            return 1;
        }

        int restore() {
            if (image == null) {
                return NONE;
            }
            world = image.twin();
            past = twins(imagePast);
            return 1;
        }

        int laneOf(int s) {
            return rows[s] == null ? 0 : rows[s].lane;
        }

        private int found(int s, int lane, int i, int n) {
            if (rows[s] == null) {
                return NULL;
            }
            if (rows[s].lane != lane) {
                return CAST;
            }
            return i < 0 || (long) i + n > rows[s].items.length ? INDEX : 0;
        }

        private void put(int s, int i, long v) {
            int bits = new int[] {56, 48, 32, 0}[rows[s].lane];
            rows[s].items[i] = v << bits >> bits;
        }

        int tried(int s, int lane, int i, int n) {
            if (no(s, 4) || no(lane, 4) || no(n - 1, 24)) {
                return BAD;
            }
            int found = found(s, lane, i, n);
            if (found != 0) {
                return found;
            }
            long[] row = Arrays.copyOfRange(rows[s].items, i, i + n);
            if (Arrays.stream(row).anyMatch(v -> v < 0 || v > 3)) {
                return NOT;
            }
            World twin = world.twin();
            int count = 0;
            for (long v : row) {
                if (twin.over((int) v)) {
                    break;
                }
                twin.turn((int) v);
                if (twin.tasks[(int) v].state == 2) {
                    break;
                }
                count++;
            }
            return count;
        }

        int film(int s, int lane, int i) {
            if (no(s, 4) || no(lane, 4)) {
                return BAD;
            }
            int found = found(s, lane, i, 4);
            for (int t = 0; t < 4 && found == 0; t++) {
                put(s, i + t, world.tasks[t].done);
            }
            return found != 0 ? found : 4;
        }

        int sheet(int s, int lane, int n) {
            if (no(s, 4) || no(lane, 4) || n > 24) {
                return BAD;
            }
            if (n < 0) {
                return SIZE;
            }
            rows[s] = new Row();
            rows[s].lane = lane;
            rows[s].items = new long[n];
            return n;
        }

        int drop(int s) {
            if (no(s, 4)) {
                return BAD;
            }
            if (rows[s] == null) {
                return NULL;
            }
            int had = rows[s].items.length;
            rows[s] = null;
            return had;
        }

        int item(int s, int lane, int i, long v) {
            if (no(s, 4) || no(lane, 4)) {
                return BAD;
            }
            int found = found(s, lane, i, 1);
            if (found != 0) {
                return found;
            }
            put(s, i, v);
            return 1;
        }

        int copy(int from, int i, int to, int j, int n) {
            if (no(from, 4) || no(to, 4)) {
                return BAD;
            }
            if (rows[from] == null || rows[to] == null) {
                return NULL;
            }
            if (rows[from].lane != rows[to].lane) {
                return CAST;
            }
            if (n < 0 || found(from, rows[from].lane, i, n) != 0 || found(to, rows[to].lane, j, n) != 0) {
                return INDEX;
            }
            long[] taken = Arrays.copyOfRange(rows[from].items, i, i + n);
            for (int k = 0; k < n; k++) {
                rows[to].items[j + k] = taken[k];
            }
            return n;
        }
    }
}
