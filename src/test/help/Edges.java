import java.util.function.Supplier;
import java.util.function.ToLongFunction;

/**
 * What the tests of edges share: each answer is held against what is due, under the promise and the sentence of the
 * document that it is due by. A test of edges extends this class, makes objects of GateTable, and calls end.
 */
abstract class Edges {
    static final int BAD = -1, NOT = -2, FULL = -3, NONE = -4, NULL = -11, CAST = -12, INDEX = -13, SIZE = -14;
    static final int LEAST = Integer.MIN_VALUE, MOST = Integer.MAX_VALUE;

    private static String heading = "";
    private static int right = 0;
    private static int wrong = 0;

    /** What follows is due by that sentence of a promise, or of the terms, if its number is 0. */
    static void promise(int number, String sentence) {
        heading = (number == 0 ? "Terms" : "promise " + number) + ", '" + sentence + "': ";
    }

    static void due(String call, long got, long want) {
        if (got == want) {
            right++;
        } else {
            wrong++;
            System.out.println(heading + call + " answered " + got + ", due is " + want);
        }
    }

    static void same(String what, String got, String want) {
        if (got.equals(want)) {
            right++;
        } else {
            wrong++;
            System.out.println(heading + what + " is " + got + ", due is " + want);
        }
    }

    static void end() {
        System.out.println(right + " answers right, " + wrong + " wrong");
        if (wrong != 0) {
            System.exit(1);
        }
    }

    /** Numbers just outside of least .. most, and far outside. */
    static int[] outside(int least, int most) {
        return new int[] {least - 1, most + 1, LEAST, MOST};
    }

    // ---- ways to bring an object somewhere

    static void type(GateTable x, String text) {
        for (int k = 0; k < text.length(); k++) {
            x.type(text.charAt(k));
        }
    }

    static int tell(GateTable x, int task, String text) {
        type(x, text);
        return x.program(task);
    }

    /** The programs of tasks 0 on, each of which must be sound. */
    static GateTable with(String... programs) {
        GateTable x = new GateTable();
        for (int t = 0; t < programs.length; t++) {
            due("whether program " + programs[t] + " is taken", tell(x, t, programs[t]) >= 0 ? 1 : 0, 1);
        }
        return x;
    }

    static void turns(GateTable x, int... tasks) {
        for (int t : tasks) {
            x.turn(t);
        }
    }

    static void row(GateTable x, int sheet, int lane, long... items) {
        x.sheet(sheet, lane, items.length);
        for (int k = 0; k < items.length; k++) {
            x.item(sheet, lane, k, items[k]);
        }
    }

    /** A seed from which x is drawn, what is left over by 65536 being low. */
    static int seedFor(int x, int low) {
        long inverse = 1;
        for (int k = 0; k < 6; k++) {
            inverse = inverse * (2 - 1103515245L * inverse) & 0x7fffffffL;
        }
        return (int) ((x * 65536L + low - 12345L) * inverse & 0x7fffffffL);
    }

    // ---- ways to look at it

    /** A trace in letters: a( enters, a) leaves, a+1 and a-1 add. */
    static String trace(GateTable x, int task) {
        StringBuilder text = new StringBuilder();
        for (int k = 0; k < x.alone(task, 0); k++) {
            int kind = x.step(task, k, 0);
            int add = x.step(task, k, 2) - 10;
            text.append((char) ('a' + x.step(task, k, 1)));
            text.append(kind == 0 ? "(" : kind == 1 ? ")" : add < 0 ? "" + add : "+" + add);
            if (kind != 2 && add != 0) {
                text.append('?');
            }
        }
        return text.toString();
    }

    static int draw(GateTable x) {
        int draw = x.seed(0);
        x.seed(draw);
        return draw;
    }

    /** What tasks, gates, counts and the draw are, but not what may be undone: some 90 calls. */
    static String look(GateTable x) {
        StringBuilder text = new StringBuilder("counts");
        for (int what = 0; what < 8; what++) {
            text.append(' ').append(x.count(what));
        }
        for (int g = 0; g < 6; g++) {
            text.append(" gate");
            for (int what = 0; what < 5; what++) {
                text.append(' ').append(x.gate(g, what));
            }
        }
        for (int t = 0; t < 4; t++) {
            text.append(" task");
            for (int what = 0; what < 7; what++) {
                text.append(' ').append(x.task(t, what));
            }
            for (int what = 0; what < 6; what++) {
                text.append(' ').append(x.alone(t, what));
            }
        }
        return text.append(" draw ").append(draw(x)).toString();
    }

    private static String glance(GateTable x) {
        StringBuilder text = new StringBuilder();
        for (int what = 0; what < 9; what++) {
            text.append(' ').append(x.count(what));
        }
        for (int g = 0; g < 6; g++) {
            text.append(' ').append(x.gate(g, 0));
        }
        for (int t = 0; t < 4; t++) {
            text.append(' ').append(x.task(t, 1)).append(' ').append(x.alone(t, 0));
        }
        return text.append(" draw ").append(draw(x)).toString();
    }

    /** The items of a sheet, if no task has a program: a task's number, or ? for what is none. */
    static String items(GateTable x, int sheet, int lane, int n) {
        char[] text = new char[n];
        for (int t = 0; t < 4; t++) {
            due("a turn of a task without a program", x.turn(t), 2);
            for (int k = 0; k < n; k++) {
                int turns = x.tried(sheet, lane, k, 1);
                if (turns != 1) {
                    text[k] = turns == 0 ? (char) ('0' + t) : turns == NOT ? '?' : '!';
                }
            }
            x.undo();
        }
        return new String(text);
    }

    /** A sheet's lane, which of its items are tasks, how many there are; it is gone then. */
    private static String lastOfSheet(GateTable x, int sheet) {
        StringBuilder text = new StringBuilder(" sheet");
        for (int lane = 0; lane < 4; lane++) {
            int found = x.tried(sheet, lane, 0, 1);
            text.append(' ').append(found);
            for (int k = 1; k < 6 && found != NULL && found != CAST; k++) {
                text.append(',').append(x.tried(sheet, lane, k, 1));
            }
        }
        return text.append(" of ").append(x.drop(sheet)).toString();
    }

    /** All that can be seen of an object, which is used up by that: some 350 calls. */
    private static String lastLook(GateTable x, boolean withTape) {
        StringBuilder text = new StringBuilder(look(x)).append(" known ").append(x.count(8));
        for (int s = 0; s < 4; s++) {
            text.append(lastOfSheet(x, s));
        }
        if (withTape) {
            text.append(" tape ").append(x.type(' '));
        }
        for (int known = x.count(8); known > 0; known--) {
            text.append(" undo ").append(x.undo()).append(glance(x));
        }
        return text.append(" restore ").append(x.restore()).append(glance(x)).toString();
    }

    /** A call that answers so, and leaves all as it was. */
    static void idle(String name, Supplier<GateTable> maker, ToLongFunction<GateTable> call, long answer) {
        GateTable x = maker.get();
        due(name, call.applyAsLong(x), answer);
        same("all behind " + name, lastLook(x, true), lastLook(maker.get(), true));
    }

    /** A call that answers so, empties the tape, and leaves all else as it was. */
    static void emptying(String name, Supplier<GateTable> maker, ToLongFunction<GateTable> call, long answer) {
        GateTable x = maker.get();
        due(name, call.applyAsLong(x), answer);
        due("the first letter behind " + name, x.type('a'), 1);
        same("all behind " + name, lastLook(x, false), lastLook(maker.get(), false));
    }
}
