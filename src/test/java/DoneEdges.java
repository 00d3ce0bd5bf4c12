/** The edges of promises 20 to 24, and of what the terms say of drifts, the draw and what is undone. */
public final class DoneEdges extends Edges {
    public static void main(String[] args) {
        driftNumbers();
        driftTurns();
        driftLays();
        driftRules();
        driftRefused();
        driftByTheCalls();
        driftUndone();
        undoneNone();
        undoneKinds();
        undonePrograms();
        undoneKnown();
        undoneWhateverWasToldSince();
        notToBeUndone();
        seeds();
        draws();
        imagesNone();
        imagesOfAll();
        imagesOfWhatMayBeUndone();
        imagesAgain();
        end();
    }

    // ---- promise 20

    private static void driftNumbers() {
        promise(20, "n turns (1 .. 40); BAD");
        GateTable x = new GateTable();
        for (int n : outside(1, 40)) {
            due("drift(" + n + ")", x.drift(n), BAD);
        }
        due("drift(-40)", x.drift(-40), BAD);
        due("the draw", draw(x), 1);
        due("known", x.count(8), 0);
        long draw = 1;
        for (int n : new int[] {1, 40}) {
            due("whether drift(" + n + ") answers a set", x.drift(n) & ~15, 0);
            for (int k = 0; k < n; k++) {
                draw = draw * 1103515245L + 12345L & 0x7fffffffL;
            }
            due("the draw behind drift(" + n + ")", draw(x), draw);
        }
    }

    private static GateTable drawing(int x, int low) {
        GateTable table = with("a()", "b()", "c()", "d()");
        table.seed(seedFor(x, low));
        return table;
    }

    private static void driftTurns() {
        promise(20, "x left over by 8 is 0 .. 5: turn((x by 8, cut) left over by 4)");
        for (int kind = 0; kind <= 5; kind++) {
            for (int rest : new int[] {0, 1, 2, 3, 4, 7, 4092, 4095}) {
                GateTable x = drawing(8 * rest + kind, rest % 2 == 0 ? 0 : 65535);
                due("drift(1), x being " + (8 * rest + kind), x.drift(1), 15 & ~(1 << rest % 4));
                due("who is GOING", x.count(1), 1 << rest % 4);
                due("RULE", x.count(0), 0);
            }
        }
        promise(20, "TASKS that are IDLE then (a set)");
        GateTable y = new GateTable();
        for (int t = 0; t < 4; t++) {
            y.seed(seedFor(8 * t, 0));
            due("drift(1), task " + t + " ENDED by it", y.drift(1), 15 & -(2 << t));
        }
    }

    private static void driftLays() {
        promise(20, "6: lay()");
        for (int rest : new int[] {0, 1, 4095}) {
            GateTable x = drawing(8 * rest + 6, 65535);
            turns(x, 0, 1, 1, 2);
            due("drift(1), x being " + (8 * rest + 6), x.drift(1), 15);
            due("none has begun", x.count(7), 0);
            due("no gate is held", x.gate(0, 1), NONE);
        }
    }

    private static void driftRules() {
        promise(20, "7: rule((x by 8, cut) left over by 5)");
        for (int rest : new int[] {0, 1, 2, 3, 4, 5, 9, 4094, 4095}) {
            GateTable x = drawing(8 * rest + 7, 65535);
            x.rule(rest % 5 == 1 ? 2 : 1);
            x.turn(3);
            due("drift(1), x being " + (8 * rest + 7), x.drift(1), 7);
            due("RULE", x.count(0), rest % 5);
        }
    }

    /** A drift of one turn that is refused: all but the draw is as it was; that it was drawn may be undone. */
    private static void refused(GateTable x, int drawn, String why) {
        x.seed(77);
        String ahead = look(x);
        x.seed(seedFor(drawn, 0));
        int known = x.count(8);
        due("drift(1), refused: " + why, x.drift(1), 15 & ~(x.count(1) | x.count(2) | x.count(3) | x.count(4)));
        due("known", x.count(8), known + 1);
        due("the draw", x.seed(77), drawn * 65536);
        same("all behind a turn that is refused", look(x), ahead);
        due("undone", x.undo(), known);
        due("the draw", draw(x), seedFor(drawn, 0));
    }

    private static void driftRefused() {
        promise(20, "(Nothing, if that is refused.) each may be UNDONE");
        refused(new GateTable(), 6, "lay of a table laid");
        refused(new GateTable(), 7, "rule 0, which it is");
        GateTable ended = new GateTable();
        ended.turn(3);
        refused(ended, 8 * 3, "turn of one ENDED");
        GateTable broken = with("!");
        broken.turn(0);
        refused(broken, 5, "turn of one BROKEN");
        GateTable ruled = new GateTable();
        ruled.rule(4);
        refused(ruled, 7 + 8 * 4, "rule 4, which it is");
    }

    private static GateTable ringing() {
        return with("a(b(b+1))", "b(c(c+2))", "c(a(a-3))", "a(a+9!)");
    }

    /** One turn of a drift as calls of the table. */
    private static void callByDraw(GateTable x, long draw) {
        int drawn = (int) (draw / 65536);
        switch (drawn % 8) {
            case 6:
                x.lay();
                break;
            case 7:
                x.rule(drawn / 8 % 5);
                break;
            default:
                x.turn(drawn / 8 % 4);
                break;
        }
    }

    private static void driftByTheCalls() {
        promise(20, "for each turn it's drawn: turn, lay or rule");
        for (int first = 1; first < 60; first += 2) {
            GateTable x = ringing();
            GateTable y = ringing();
            x.seed(first);
            long draw = first;
            for (int k = 0; k < 40; k++) {
                draw = draw * 1103515245L + 12345L & 0x7fffffffL;
                callByDraw(y, draw);
            }
            y.seed((int) draw);
            due("drift(40) from " + first, x.drift(40), 15 & ~(y.count(1) | y.count(2) | y.count(3) | y.count(4)));
            same("all behind it", look(x), look(y));
        }
    }

    private static void driftUndone() {
        promise(20, "each may be UNDONE");
        for (int n = 1; n <= 8; n++) {
            GateTable x = ringing();
            GateTable y = ringing();
            x.seed(n * 1000);
            y.seed(n * 1000);
            x.drift(n);
            due("known behind drift(" + n + ") and 4 programs", x.count(8), Math.min(n + 4, 6));
            for (int k = 0; k < Math.min(n, 6); k++) {
                due("undo() of turn " + (n - k) + " of " + n, x.undo(), Math.min(n + 4, 6) - 1 - k);
            }
            if (n > 6) {
                y.drift(n - 6);
            }
            same("all as ahead of them", look(x), look(y));
        }
    }

    // ---- promise 21

    private static void undoneNone() {
        promise(21, "how many more may be. NONE: none is known");
        GateTable x = new GateTable();
        due("undo()", x.undo(), NONE);
        x.rule(1);
        due("undo() of one", x.undo(), 0);
        due("undo() of none", x.undo(), NONE);
        x.rule(1);
        x.rule(2);
        due("undo() of two", x.undo(), 1);
        due("RULE", x.count(0), 1);
        x.rule(3);
        due("known", x.count(8), 2);
        due("undo()", x.undo(), 1);
        due("RULE", x.count(0), 1);
        due("undo()", x.undo(), 0);
        due("RULE", x.count(0), 0);
    }

    private interface Deed {
        void on(GateTable x);
    }

    /** A deed that may be undone: then all is as ahead of it. */
    private static void undone(String name, GateTable x, Deed deed) {
        int known = Math.min(5, x.count(8));
        String ahead = look(x);
        String trace = trace(x, 0);
        deed.on(x);
        due("whether " + name + " does anything", look(x).equals(ahead) ? 0 : 1, 1);
        due("known behind " + name, x.count(8), known + 1);
        due("undo() of " + name, x.undo(), known);
        same("all behind that", look(x), ahead);
        same("a trace behind that", trace(x, 0), trace);
    }

    private static GateTable quiet() {
        GateTable x = with("a(a+1)", "b(a())", "!");
        turns(x, 0, 0, 0, 2);
        return x;
    }

    /** Tasks 0 and 1 wait; a turn of task 2 closes the ring. */
    private static GateTable nearRing(int rule) {
        GateTable x = ringing();
        if (rule != 0) {
            x.rule(rule);
        }
        turns(x, 0, 1, 2, 0, 1);
        return x;
    }

    private static void undoneKinds() {
        promise(21, "the latest of a PROGRAM, a GATE, RULE told, a TASK run, a TURN, TURNS gone, THE TABLE laid anew");
        undone("a PROGRAM", quiet(), x -> tell(x, 0, "f(f-9)"));
        undone("a GATE that goes", quiet(), x -> x.gone(0));
        GateTable gone = quiet();
        gone.gone(0);
        undone("a GATE that comes", gone, x -> x.gone(0));
        undone("RULE told", quiet(), x -> x.rule(4));
        undone("a TASK run", quiet(), x -> x.run(0));
        undone("a TURN that begins", quiet(), x -> x.turn(1));
        undone("a TURN that ends", quiet(), x -> x.turn(3));
        undone("TURNS gone", quiet(), x -> x.go(40));
        undone("THE TABLE laid anew", quiet(), GateTable::lay);
        undone("a TURN to a ring", nearRing(0), x -> x.turn(2));
        undone("a TURN with a victim", nearRing(4), x -> x.turn(2));
        undone("a TURN with another victim", nearRing(3), x -> x.turn(2));
        undone("THE TABLE laid anew while two wait", nearRing(4), GateTable::lay);
        undone("a turn of a DRIFT", nearRing(4), x -> x.drift(1));
        promise(21, "a TASK run, of no steps, too");
        GateTable none = new GateTable();
        none.run(0);
        due("known", none.count(8), 1);
    }

    private static void undonePrograms() {
        promise(21, "a PROGRAM is as it had not been, also where a GATE comes or goes then");
        GateTable x = with("a(b())", "b(b+1)");
        tell(x, 0, "c(c+1)d()");
        x.undo();
        x.gone(1);
        same("the trace of task 0", trace(x, 0), "a(a)");
        x.gone(1);
        same("the trace of task 0", trace(x, 0), "a(b(b)a)");
        same("the trace of task 1", trace(x, 1), "b(b+1b)");
        promise(24, "All is as it was then, also where a GATE comes or goes then");
        x.image();
        tell(x, 0, "c(c+1)d()");
        tell(x, 1, "");
        x.restore();
        x.gone(2);
        same("the trace of task 0", trace(x, 0), "a(b(b)a)");
        same("the trace of task 1", trace(x, 1), "b(b+1b)");
    }

    private static void undoneKnown() {
        promise(21, "(6 are known, older ones lost)");
        for (int told = 5; told <= 8; told++) {
            GateTable x = new GateTable();
            for (int k = 1; k <= told; k++) {
                x.rule(1 + k % 4);
                due("known behind " + k, x.count(8), Math.min(k, 6));
            }
            for (int k = told - 1; k >= Math.max(0, told - 6); k--) {
                due("undo() to " + k + " of " + told, x.undo(), k - Math.max(0, told - 6));
                due("RULE then", x.count(0), k == 0 ? 0 : 1 + k % 4);
            }
            due("undo() then", x.undo(), NONE);
        }
    }

    private static void undoneWhateverWasToldSince() {
        promise(21, "all but SHEETS, THE TAPE, IMAGES is as ahead of it, whatever was told since");
        GateTable x = new GateTable();
        x.seed(5);
        x.rule(1);
        x.seed(6);
        type(x, "a(");
        x.sheet(2, 3, 7);
        x.image();
        due("undo()", x.undo(), 0);
        due("the draw as ahead of the rule", draw(x), 5);
        due("the tape", x.type(')'), 3);
        due("the sheet", x.drop(2), 7);
        due("the image", x.restore(), 1);
        due("RULE of the image", x.count(0), 1);
        due("the draw of the image", draw(x), 6);
        GateTable y = with("a()");
        y.rule(3);
        type(y, "b(b+1)");
        due("undo() while the tape has letters", y.undo(), 1);
        due("program of the tape", y.program(1), 3);
    }

    private static void notToBeUndone() {
        promise(21, "no other call may be UNDONE");
        GateTable x = with("a(a+1)");
        x.type('!');
        x.seed(9);
        x.image();
        row(x, 0, 0, 0, 0, 0, 0);
        x.tried(0, 0, 0, 4);
        x.film(0, 0, 0);
        x.copy(0, 0, 0, 1, 3);
        x.drop(0);
        look(x);
        x.ahead(0, 1);
        x.loops(0);
        x.ways(0, 1, 0);
        x.odds(0, 1, 0);
        x.near(0, 1);
        due("known", x.count(8), 1);
        x.restore();
        due("known behind restore", x.count(8), 1);
        promise(21, "nor what is refused");
        x.program(0);
        x.undo();
        x.rule(0);
        x.gone(6);
        x.go(0);
        x.drift(0);
        x.lay();
        x.turn(4);
        x.run(4);
        x.program(4);
        due("known", x.count(8), 1);
        due("undo()", x.undo(), 0);
        due("no program", x.alone(0, 0), 0);
    }

    // ---- promise 22

    private static void seeds() {
        promise(22, "THE DRAW becomes v: what it was. BAD: below 0");
        GateTable x = new GateTable();
        due("seed(-1)", x.seed(-1), BAD);
        due("seed of the least", x.seed(LEAST), BAD);
        due("seed(0): 1 at first", x.seed(0), 1);
        due("seed(-1)", x.seed(-1), BAD);
        due("seed of the most", x.seed(MOST), 0);
        due("seed(1)", x.seed(1), MOST);
        due("known", x.count(8), 0);
    }

    private static void draws() {
        promise(22, "drawn, it becomes the lowest 31 bits of itself times 1103515245 and 12345 more");
        int[] from = {0, 1, 2, MOST, MOST - 1, 1 << 30};
        // by hand: the multiplier is odd and below 2 to the 31; of the most it is taken from 12345
        long[] to = {12345, 1103527590L, 59559187L, 1043980748L, 2087949151L, (1L << 30) + 12345};
        for (int k = 0; k < from.length; k++) {
            GateTable x = new GateTable();
            x.seed(from[k]);
            due("go(1)", x.go(1), 1);
            due("the draw behind " + from[k], draw(x), to[k]);
            due("the one that ended, x left over by 4", x.count(3), 1 << to[k] / 65536 % 4);
        }
    }

    // ---- promises 23, 24

    private static void imagesNone() {
        promise(24, "NONE: there is none");
        GateTable x = new GateTable();
        x.rule(2);
        due("restore()", x.restore(), NONE);
        due("RULE", x.count(0), 2);
        promise(23, "1");
        due("image()", x.image(), 1);
        promise(24, "All is as it was then: 1");
        due("restore()", x.restore(), 1);
        due("RULE", x.count(0), 2);
    }

    private static void imagesOfAll() {
        promise(23, "All but SHEETS, THE TAPE is kept as an IMAGE");
        GateTable x = ringing();
        x.gone(5);
        x.rule(4);
        turns(x, 0, 1, 2, 0, 1, 2, 3);
        x.seed(MOST);
        x.sheet(0, 1, 5);
        type(x, "a(");
        String then = look(x);
        x.image();
        promise(24, "All is as it was then: 1");
        x.lay();
        x.gone(0);
        tell(x, 1, "");
        x.run(2);
        x.rule(0);
        x.drift(40);
        due("restore()", x.restore(), 1);
        same("all", look(x), then);
        due("turn(2), which fell, begins anew", x.turn(2), 0);
        promise(23, "All but SHEETS, THE TAPE");
        GateTable y = new GateTable();
        y.sheet(0, 1, 5);
        type(y, "a(");
        y.image();
        y.sheet(0, 2, 6);
        y.sheet(1, 2, 3);
        type(y, ")");
        y.restore();
        due("the sheet as it is", y.drop(0), 6);
        due("the new sheet", y.drop(1), 3);
        due("the tape as it is", y.type(' '), 4);
        due("program of it", y.program(0), 2);
    }

    private static void imagesOfWhatMayBeUndone() {
        promise(23, "what may be UNDONE is kept, too");
        GateTable x = new GateTable();
        for (int k = 1; k <= 8; k++) {
            x.rule(1 + k % 4);
        }
        x.image();
        for (int k = 1; k <= 8; k++) {
            x.seed(k);
            x.rule(k % 2);
        }
        due("restore()", x.restore(), 1);
        due("known", x.count(8), 6);
        for (int k = 7; k >= 2; k--) {
            due("undo()", x.undo(), k - 2);
            due("RULE", x.count(0), 1 + k % 4);
            due("the draw", draw(x), 1);
        }
        due("undo() of none", x.undo(), NONE);
        due("restore() behind that", x.restore(), 1);
        due("known", x.count(8), 6);
        GateTable y = new GateTable();
        y.image();
        y.rule(1);
        y.rule(2);
        due("restore() to where nothing was known", y.restore(), 1);
        due("undo()", y.undo(), NONE);
        due("RULE", y.count(0), 0);
    }

    private static void imagesAgain() {
        promise(24, "restored again, and another image");
        GateTable x = new GateTable();
        x.rule(1);
        x.image();
        x.rule(2);
        due("restore()", x.restore(), 1);
        x.rule(3);
        due("restore() again", x.restore(), 1);
        due("RULE", x.count(0), 1);
        x.rule(4);
        x.image();
        x.rule(0);
        due("restore() of the latest image", x.restore(), 1);
        due("RULE", x.count(0), 4);
        due("undo()", x.undo(), 1);
        due("RULE", x.count(0), 1);
        due("restore()", x.restore(), 1);
        due("RULE", x.count(0), 4);
    }
}
