/** 'What is refused changes nothing, but as told', of each refusal of each promise; nor does what only asks. */
public final class RefusedEdges extends Edges {
    public static void main(String[] args) {
        answersBelowZero();
        types();
        programs();
        gatesAndRuns();
        rulesAndTurns();
        goes();
        laysAndUndoes();
        drifts();
        seeds();
        sheetsRefused();
        copiesRefused();
        asks();
        end();
    }

    // ---- where the calls find the object

    /** Tasks 2 and 3 are over, the others IDLE; an image, sheets of two lanes, a tape, six things that may be undone. */
    private static GateTable quiet() {
        GateTable x = with("a(a+1b(b+2))", "b(a(a-3))", "[c(c+1!)]!", "f(f+9)");
        x.gone(4);
        x.run(3);
        x.image();
        x.rule(2);
        turns(x, 2, 2, 2, 2, 3, 3, 3);
        x.seed(77);
        row(x, 0, 0, 0, 1, 2, 3, 9);
        row(x, 1, 3, 0, 1);
        row(x, 3, 0, 3, 3, 3);
        type(x, "a(");
        return x;
    }

    /** The same, task 0 GOING, task 1 WAITING for it. */
    private static GateTable busy() {
        GateTable x = quiet();
        turns(x, 0, 1);
        x.seed(88);
        due("task 1", x.turn(1), 1);
        return x;
    }

    private static GateTable laid() {
        GateTable x = with("a()", "!");
        type(x, "b(");
        row(x, 0, 0, 0, 1);
        x.image();
        return x;
    }

    private static GateTable over() {
        GateTable x = with("a()", "!");
        x.go(40);
        due("those that are over", x.count(3) + x.count(4), 15);
        return x;
    }

    private static GateTable fullTape() {
        GateTable x = new GateTable();
        for (int k = 0; k < 60; k++) {
            x.type('!');
        }
        x.rule(1);
        return x;
    }

    /** Task 3 would have 31 steps, if gate f were gone. */
    private static GateTable nearlyFull() {
        GateTable x = with("f(f+1)", "", "!", "a([2{5{a+1}}4{a+1}f()]a+1)");
        turns(x, 0, 0, 0, 2);
        return x;
    }

    private static GateTable fault() {
        GateTable x = laid();
        type(x, "]");
        return x;
    }

    private static GateTable tooLong() {
        GateTable x = laid();
        type(x, ")5{5{a()}}");
        return x;
    }

    // ---- the calls

    private static void answersBelowZero() {
        promise(0, "BAD -1, NOT -2, FULL -3, NONE -4, NULL -11, CAST -12, INDEX -13, SIZE -14");
        int[] told = {GateTable.BAD, GateTable.NOT, GateTable.FULL, GateTable.NONE,
            GateTable.NULL, GateTable.CAST, GateTable.INDEX, GateTable.SIZE};
        int[] want = {BAD, NOT, FULL, NONE, NULL, CAST, INDEX, SIZE};
        for (int k = 0; k < want.length; k++) {
            due("constant " + k, told[k], want[k]);
        }
    }

    private static void types() {
        promise(2, "What is refused changes nothing");
        for (int letter : outside(32, 126)) {
            idle("type(" + letter + ")", RefusedEdges::busy, x -> x.type(letter), BAD);
        }
        idle("type behind 60 letters", RefusedEdges::fullTape, x -> x.type('a'), FULL);
    }

    private static void programs() {
        promise(3, "What is refused changes nothing, THE TAPE is empty then (but by BAD)");
        for (int t : outside(0, 3)) {
            idle("program(" + t + ")", RefusedEdges::quiet, x -> x.program(t), BAD);
            idle("program(" + t + ")", RefusedEdges::busy, x -> x.program(t), BAD);
        }
        for (int t = 0; t < 4; t++) {
            int task = t;
            emptying("program(" + t + "), NOT", RefusedEdges::busy, x -> x.program(task), NOT);
            emptying("program(" + t + "), a fault", RefusedEdges::fault, x -> x.program(task), -22);
            emptying("program(" + t + "), FULL", RefusedEdges::tooLong, x -> x.program(task), FULL);
        }
        emptying("program(2), a fault at the end", RefusedEdges::quiet, x -> x.program(2), -22);
    }

    private static void gatesAndRuns() {
        promise(4, "What is refused changes nothing");
        for (int g : outside(0, 5)) {
            idle("gone(" + g + ")", RefusedEdges::quiet, x -> x.gone(g), BAD);
        }
        for (int g = 0; g < 6; g++) {
            int gate = g;
            idle("gone(" + g + "), NOT", RefusedEdges::busy, x -> x.gone(gate), NOT);
        }
        idle("gone(5), FULL", RefusedEdges::nearlyFull, x -> x.gone(5), FULL);
        promise(5, "What is refused changes nothing");
        for (int t : outside(0, 3)) {
            idle("run(" + t + ")", RefusedEdges::quiet, x -> x.run(t), BAD);
        }
        for (int t = 0; t < 4; t++) {
            int task = t;
            idle("run(" + t + "), NOT", RefusedEdges::busy, x -> x.run(task), NOT);
        }
    }

    private static void rulesAndTurns() {
        promise(8, "What is refused changes nothing");
        for (int r : outside(0, 4)) {
            idle("rule(" + r + ")", RefusedEdges::busy, x -> x.rule(r), BAD);
        }
        idle("rule(2), NOT", RefusedEdges::busy, x -> x.rule(2), NOT);
        idle("rule(0), NOT", RefusedEdges::laid, x -> x.rule(0), NOT);
        promise(9, "What is refused changes nothing");
        for (int t : outside(0, 3)) {
            idle("turn(" + t + ")", RefusedEdges::busy, x -> x.turn(t), BAD);
        }
        idle("turn(2) of one BROKEN", RefusedEdges::busy, x -> x.turn(2), NOT);
        idle("turn(3) of one ENDED", RefusedEdges::busy, x -> x.turn(3), NOT);
    }

    private static void goes() {
        promise(10, "What is refused changes nothing");
        for (int n : outside(1, 40)) {
            idle("go(" + n + ")", RefusedEdges::busy, x -> x.go(n), BAD);
        }
        promise(10, "no more, if there is none (nothing is drawn then)");
        idle("go(1)", RefusedEdges::over, x -> x.go(1), 0);
        idle("go(40)", RefusedEdges::over, x -> x.go(40), 0);
    }

    private static void laysAndUndoes() {
        promise(11, "What is refused changes nothing");
        idle("lay(), NOT", RefusedEdges::laid, GateTable::lay, NOT);
        promise(21, "What is refused changes nothing");
        idle("undo(), NONE", RefusedEdges::undoneAll, GateTable::undo, NONE);
        promise(24, "What is refused changes nothing");
        idle("restore(), NONE", RefusedEdges::over, GateTable::restore, NONE);
    }

    private static GateTable undoneAll() {
        GateTable x = busy();
        for (int k = 0; k < 6; k++) {
            x.undo();
        }
        return x;
    }

    private static void drifts() {
        promise(20, "What is refused changes nothing");
        for (int n : outside(1, 40)) {
            idle("drift(" + n + ")", RefusedEdges::busy, x -> x.drift(n), BAD);
        }
    }

    private static void seeds() {
        promise(22, "What is refused changes nothing");
        idle("seed(-1)", RefusedEdges::busy, x -> x.seed(-1), BAD);
        idle("seed of the least", RefusedEdges::busy, x -> x.seed(LEAST), BAD);
    }

    private static void sheetsRefused() {
        for (int s : outside(0, 3)) {
            promise(26, "What is refused changes nothing");
            idle("film, sheet " + s, RefusedEdges::busy, x -> x.film(s, 0, 0), BAD);
            idle("film, lane " + s, RefusedEdges::busy, x -> x.film(0, s, 0), BAD);
            promise(27, "What is refused changes nothing");
            idle("sheet " + s, RefusedEdges::busy, x -> x.sheet(s, 0, 1), BAD);
            idle("sheet of lane " + s, RefusedEdges::busy, x -> x.sheet(0, s, 1), BAD);
            promise(28, "What is refused changes nothing");
            idle("drop, sheet " + s, RefusedEdges::busy, x -> x.drop(s), BAD);
            promise(29, "What is refused changes nothing");
            idle("item, sheet " + s, RefusedEdges::busy, x -> x.item(s, 0, 0, 3), BAD);
            idle("item, lane " + s, RefusedEdges::busy, x -> x.item(0, s, 0, 3), BAD);
        }
        promise(26, "What is refused changes nothing");
        idle("film, NULL", RefusedEdges::busy, x -> x.film(2, 0, 0), NULL);
        idle("film, CAST", RefusedEdges::busy, x -> x.film(0, 1, 0), CAST);
        idle("film, INDEX below", RefusedEdges::busy, x -> x.film(0, 0, -1), INDEX);
        idle("film, INDEX above", RefusedEdges::busy, x -> x.film(0, 0, 2), INDEX);
        promise(27, "What is refused changes nothing");
        idle("sheet of 25", RefusedEdges::busy, x -> x.sheet(0, 0, 25), BAD);
        idle("sheet of -1", RefusedEdges::busy, x -> x.sheet(0, 0, -1), SIZE);
        promise(28, "What is refused changes nothing");
        idle("drop, NULL", RefusedEdges::busy, x -> x.drop(2), NULL);
        promise(29, "What is refused changes nothing");
        idle("item, NULL", RefusedEdges::busy, x -> x.item(2, 0, 0, 3), NULL);
        idle("item, CAST", RefusedEdges::busy, x -> x.item(0, 3, 0, 3), CAST);
        idle("item, INDEX below", RefusedEdges::busy, x -> x.item(0, 0, -1, 3), INDEX);
        idle("item, INDEX above", RefusedEdges::busy, x -> x.item(0, 0, 5, 3), INDEX);
    }

    private static void copiesRefused() {
        promise(30, "What is refused changes nothing");
        for (int s : outside(0, 3)) {
            idle("copy from sheet " + s, RefusedEdges::busy, x -> x.copy(s, 0, 0, 0, 1), BAD);
            idle("copy to sheet " + s, RefusedEdges::busy, x -> x.copy(0, 0, s, 0, 1), BAD);
        }
        idle("copy from nothing", RefusedEdges::busy, x -> x.copy(2, 0, 0, 0, 1), NULL);
        idle("copy to nothing", RefusedEdges::busy, x -> x.copy(0, 0, 2, 0, 1), NULL);
        idle("copy of unlike lanes", RefusedEdges::busy, x -> x.copy(0, 4, 1, 0, 1), CAST);
        idle("copy behind the last", RefusedEdges::busy, x -> x.copy(0, 3, 3, 0, 3), INDEX);
        idle("copy to behind the last", RefusedEdges::busy, x -> x.copy(0, 2, 3, 1, 3), INDEX);
        idle("copy of -1", RefusedEdges::busy, x -> x.copy(0, 2, 3, 1, -1), INDEX);
        idle("copy of none", RefusedEdges::busy, x -> x.copy(0, 5, 3, 3, 0), 0);
    }

    private static void asks() {
        promise(0, "what asks changes nothing");
        idle("alone", RefusedEdges::busy, x -> x.alone(0, 0), 6);
        idle("step", RefusedEdges::busy, x -> x.step(0, 1, 2), 11);
        idle("gate", RefusedEdges::busy, x -> x.gate(0, 1), 0);
        idle("task", RefusedEdges::busy, x -> x.task(1, 0), 2);
        idle("count", RefusedEdges::busy, x -> x.count(8), 6);
        idle("ahead", RefusedEdges::busy, x -> x.ahead(0, 1), 1);
        idle("loops", RefusedEdges::busy, x -> x.loops(1), 2);
        idle("ways", RefusedEdges::busy, x -> x.ways(0, 1, 1), 3);
        idle("odds", RefusedEdges::busy, x -> x.odds(0, 1, 1), 8);
        idle("near", RefusedEdges::busy, x -> x.near(0, 1), 3);
        promise(25, "what is TRIED changes nothing");
        idle("tried", RefusedEdges::busy, x -> x.tried(0, 0, 0, 1), 1);
        idle("tried to one that waits", RefusedEdges::busy, x -> x.tried(0, 0, 0, 4), 1);
        idle("tried, NOT", RefusedEdges::busy, x -> x.tried(0, 0, 0, 5), NOT);
        idle("tried, INDEX", RefusedEdges::busy, x -> x.tried(0, 0, 0, 6), INDEX);
    }
}
