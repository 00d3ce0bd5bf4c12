/** The edges of promises 8 to 14, and of what the terms say of turns, rings, victims and the table laid anew. */
public final class TableEdges extends Edges {
    public static void main(String[] args) {
        rules();
        turnNumbers();
        turnsThatBegin();
        turnsThatEnd();
        turnsThatHold();
        turnsThatWait();
        ringsByRuleZero();
        ringsOfMore();
        victimsByAge();
        victimsBySteps();
        victimsByGates();
        victimsByNumber();
        whatVictimsLose();
        victimsLater();
        goNumbers();
        goByDraw();
        goToTheEnd();
        laidOrNot();
        laidAnew();
        laidAfterEachStep();
        gatesTold();
        tasksTold();
        counts();
        end();
    }

    // ---- promise 8

    private static void rules() {
        promise(8, "BAD");
        GateTable x = new GateTable();
        for (int r : outside(0, 4)) {
            due("rule(" + r + ")", x.rule(r), BAD);
        }
        promise(8, "RULE becomes r: what it was. NOT: it is so");
        due("rule(0) at first", x.rule(0), NOT);
        int was = 0;
        for (int r : new int[] {4, 1, 3, 2, 0}) {
            due("rule(" + r + ")", x.rule(r), was);
            due("rule(" + r + ") again", x.rule(r), NOT);
            due("count(0)", x.count(0), r);
            was = r;
        }
        due("what may be undone", x.count(8), 5);
        GateTable y = with("a(b())", "b(a())");
        turns(y, 0, 1, 0, 1);
        due("rule(1) while a ring waits", y.rule(1), 0);
        due("none falls by that", y.count(5), 3);
    }

    // ---- promise 9

    private static void turnNumbers() {
        promise(9, "BAD");
        GateTable x = with("a()", "", "!");
        for (int t : outside(0, 3)) {
            due("turn(" + t + ")", x.turn(t), BAD);
        }
        promise(9, "NOT: it was ENDED or BROKEN");
        due("turn(0)", x.turn(0), 0);
        due("turn(0) to its end", x.turn(0), 2);
        due("turn(0) of one ENDED", x.turn(0), NOT);
        due("turn(1) of no program", x.turn(1), 2);
        due("turn(1) of one ENDED", x.turn(1), NOT);
        due("turn(2)", x.turn(2), 3);
        due("turn(2) of one BROKEN", x.turn(2), NOT);
        due("what has begun", x.count(7), 3);
        due("what may be undone", x.count(8), 6);
    }

    private static void turnsThatBegin() {
        promise(9, "if it's IDLE, it begins (its AGE is how many have begun ahead of it since THE TABLE was laid)");
        GateTable x = with("a()", "a()", "!", "");
        due("turn(3)", x.turn(3), 2);
        due("its age", x.task(3, 4), 0);
        due("turn(1)", x.turn(1), 0);
        due("its age", x.task(1, 4), 1);
        due("turn(0)", x.turn(0), 1);
        due("the age of one that waits at once", x.task(0, 4), 2);
        due("turn(0)", x.turn(0), 1);
        due("its age as it waits on", x.task(0, 4), 2);
        due("turn(2)", x.turn(2), 3);
        due("the age of one broken at once", x.task(2, 4), 3);
        due("how many have begun", x.count(7), 4);
        due("lay", x.lay(), 4);
        due("turn(2)", x.turn(2), 3);
        due("its age", x.task(2, 4), 0);
    }

    private static void turnsThatEnd() {
        promise(9, "when no STEP is left, it's ENDED, or BROKEN, at once (by a TRACE without STEPS as it begins)");
        GateTable x = with("a(a+1)", "b(!)", "[!]", "!");
        due("turn(0), step 1 of 3", x.turn(0), 0);
        due("turn(0), step 2 of 3", x.turn(0), 0);
        due("it is GOING", x.task(0, 0), 1);
        due("turn(0), step 3 of 3", x.turn(0), 2);
        due("it is ENDED", x.task(0, 0), 3);
        due("its steps done", x.task(0, 1), 3);
        due("turn(1), step 1 of 2", x.turn(1), 0);
        due("turn(1), step 2 of 2", x.turn(1), 3);
        due("it is BROKEN", x.task(1, 0), 4);
        due("its steps done", x.task(1, 1), 2);
        due("turn(2) of a trace without steps", x.turn(2), 2);
        due("it is ENDED", x.task(2, 0), 3);
        due("turn(3) of a trace without steps", x.turn(3), 3);
        due("it is BROKEN", x.task(3, 0), 4);
        due("its steps done", x.task(3, 1), 0);
        GateTable y = with("5{3{a()}}");
        for (int k = 1; k < 30; k++) {
            due("step " + k + " of 30", y.turn(0), 0);
        }
        due("step 30 of 30", y.turn(0), 2);
    }

    private static void turnsThatHold() {
        promise(9, "ENTER: it HOLDS the GATE once more; LEAVE: once less, free by 0; ADD: the CELL changes");
        GateTable x = with("f(f(f+9)f-1)", "f()");
        int[] times = {1, 2, 2, 1, 1};
        int[] cells = {0, 0, 9, 9, 8};
        for (int k = 0; k < times.length; k++) {
            due("turn(0), step " + k, x.turn(0), 0);
            due("how many times", x.gate(5, 2), times[k]);
            due("by which task", x.gate(5, 1), 0);
            due("the cell", x.gate(5, 0), 1000000 + cells[k]);
            due("turn(1), waiting for it", x.turn(1), 1);
        }
        due("turn(0), its last", x.turn(0), 2);
        due("how many times", x.gate(5, 2), 0);
        due("by which task", x.gate(5, 1), NONE);
        due("turn(1), it being free", x.turn(1), 0);
        due("by which task", x.gate(5, 1), 1);
    }

    private static void turnsThatWait() {
        promise(9, "ENTER of a GATE that another TASK HOLDS: it's WAITING for it, the STEP isn't done");
        GateTable x = with("a(a+1)", "b(a())", "a()");
        turns(x, 0, 1);
        due("turn(1) to a gate held", x.turn(1), 1);
        due("its steps done", x.task(1, 1), 1);
        due("for which it waits", x.task(1, 3), 0);
        due("what it holds yet", x.task(1, 2), 2);
        turns(x, 0, 0);
        due("it is WAITING, though the gate is free", x.task(1, 0), 2);
        due("for which it waits", x.task(1, 3), 0);
        due("turn(2), ahead of it", x.turn(2), 0);
        due("turn(1), the gate being held by another one now", x.turn(1), 1);
        due("turn(2)", x.turn(2), 2);
        due("turn(1), the gate being free", x.turn(1), 0);
        due("it is GOING", x.task(1, 0), 1);
        due("for which it waits", x.task(1, 3), NONE);
        promise(9, "ENTER of a GATE that it HOLDS itself is done");
        GateTable y = with("a(b(a()))");
        turns(y, 0, 0);
        due("turn(0) to its own gate", y.turn(0), 0);
        due("how many times", y.gate(0, 2), 2);
    }

    private static void ringsByRuleZero() {
        promise(9, "4 it is WAITING in a RING (by RULE 0)");
        GateTable x = with("a(b())", "b(a())", "a()", "c()");
        turns(x, 0, 1);
        due("turn(0), the other one not waiting", x.turn(0), 1);
        due("in a ring", x.count(5), 0);
        due("turn(1), which closes it", x.turn(1), 4);
        due("in a ring", x.count(5), 3);
        due("turn(0) in it", x.turn(0), 4);
        due("turn(2), which waits for one of it, in none itself", x.turn(2), 1);
        due("in a ring", x.count(5), 3);
        due("whether 2 is", x.task(2, 6), 0);
        due("turn(3), which waits for none", x.turn(3), 0);
        due("none has fallen", x.task(0, 5) + x.task(1, 5), 0);
    }

    private static void ringsOfMore() {
        promise(9, "TASKS that WAIT, each for a GATE that the next one HOLDS, the last for one that the first HOLDS");
        GateTable x = with("a(b())", "b(c())", "c(a())", "d(c())");
        turns(x, 0, 1, 2, 3, 0, 1, 3);
        due("in a ring ahead of its last", x.count(5), 0);
        due("turn(2), the third", x.turn(2), 4);
        due("in a ring", x.count(5), 7);
        due("turn(3) beside it", x.turn(3), 1);
        GateTable y = with("a(b())", "b(c())", "c(d())", "d(a())");
        turns(y, 0, 1, 2, 3, 0, 1, 2);
        due("in a ring ahead of its last", y.count(5), 0);
        due("turn(3), the fourth", y.turn(3), 4);
        due("in a ring", y.count(5), 15);
        GateTable z = with("a(b())", "b(a())", "c(d())", "d(c())");
        turns(z, 0, 1, 2, 3, 0, 1, 2);
        due("one ring", z.count(5), 3);
        due("turn(3), which closes another one", z.turn(3), 4);
        due("two rings", z.count(5), 15);
        z.rule(4);
        due("turn(0): a victim of its own ring", z.turn(0), 11);
        due("the other ring", z.count(5), 12);
    }

    private static void victimsByAge() {
        promise(9, "RULE 1: the one that began last");
        GateTable x = with("a(b())", "b(c())", "c(a())");
        x.rule(1);
        turns(x, 1, 0, 2, 1, 0);
        due("turn(2), 2 having begun last", x.turn(2), 12);
        GateTable y = with("a(b())", "b(c())", "c(a())");
        y.rule(1);
        turns(y, 2, 1, 0, 2, 1);
        due("turn(0), 0 having begun last", y.turn(0), 10);
        GateTable z = with("a(b())", "b(c())", "c(a())", "a()");
        z.rule(1);
        turns(z, 2, 0, 1, 3, 2, 0);
        due("turn(1): 3, the last of all, is in no ring", z.turn(1), 11);
        turns(z, 0);
        due("turn(1), begun anew", z.turn(1), 1);
        due("its age", z.task(1, 4), 4);
    }

    private static void victimsBySteps() {
        promise(9, "RULE 2: of which the fewest STEPS are done (of like ones the least number)");
        GateTable x = with("a(a+1b())", "b(b+1b+1c())", "c(a())");
        x.rule(2);
        turns(x, 0, 0, 1, 1, 1, 2, 0, 1);
        due("turn(2): 2, 3, 1 steps", x.turn(2), 12);
        GateTable y = with("a(a+1a+1b())", "b(b+1c())", "c(c+1a())");
        y.rule(2);
        turns(y, 0, 0, 0, 1, 1, 2, 2, 0, 1);
        due("turn(2): 3, 2, 2 steps", y.turn(2), 11);
        GateTable z = with("a(b())", "b(c())", "c(a())");
        z.rule(2);
        turns(z, 2, 1, 0, 2, 1);
        due("turn(0): 1, 1, 1 steps", z.turn(0), 10);
    }

    private static void victimsByGates() {
        promise(9, "RULE 3: that HOLDS the fewest GATES (of like ones the least number)");
        GateTable x = with("a(d(b()))", "b(e(c()))", "c(c(c(a())))");
        x.rule(3);
        turns(x, 0, 0, 1, 1, 2, 2, 2, 0, 1);
        due("turn(2): 2, 2, 1 gates, that one three times", x.turn(2), 12);
        GateTable y = with("a(d(b()))", "b(b(c()))", "c(a())");
        y.rule(3);
        turns(y, 0, 0, 1, 1, 2, 0, 1);
        due("turn(2): 2, 1, 1 gates", y.turn(2), 11);
        GateTable z = with("a(b())", "b(a())");
        z.rule(3);
        turns(z, 1, 0, 0);
        due("turn(1): 1, 1 gates", z.turn(1), 10);
    }

    private static void victimsByNumber() {
        promise(9, "RULE 4: of the greatest number");
        GateTable x = with("a(b())", "b(a())", "a()", "a()");
        x.rule(4);
        turns(x, 0, 1, 2, 3, 1);
        due("turn(0): 2 and 3 are in no ring", x.turn(0), 11);
        GateTable y = with("", "a(b())", "", "b(a())");
        y.rule(4);
        turns(y, 3, 1, 3);
        due("turn(1): 1 and 3", y.turn(1), 13);
        GateTable z = with("a(b())", "b(c())", "c(d())", "d(a())");
        z.rule(4);
        turns(z, 0, 1, 2, 3, 0, 1, 2);
        due("turn(3): all", z.turn(3), 13);
        due("the victim itself is IDLE", z.task(3, 0), 0);
    }

    private static void whatVictimsLose() {
        promise(9, "All that it ADDED since it began is taken back, it HOLDS nothing, is IDLE, has FALLEN once more");
        GateTable x = with("a(b())", "c(c+5)f([f-9!]f+2)b(b(b-1a()b+7)b+8)f(f+9)");
        x.rule(4);
        turns(x, 0, 1, 1, 1, 1, 1, 1, 1, 1, 1, 1, 1);
        due("steps of 1", x.task(1, 1), 11);
        due("gates that 1 holds", x.task(1, 2), 2);
        due("cell of f as yet", x.gate(5, 0), 1000002);
        due("cell of b as yet", x.gate(1, 0), 999999);
        due("turn(1)", x.turn(1), 1);
        due("turn(0)", x.turn(0), 11);
        due("cell of b, added in a stay not left", x.gate(1, 0), 1000000);
        due("cell of c, sealed", x.gate(2, 0), 1000000);
        due("cell of f, sealed, some taken back by itself", x.gate(5, 0), 1000000);
        due("gates that 1 holds", x.task(1, 2), 0);
        due("the gate that it held twice", x.gate(1, 2), 0);
        due("its holder", x.gate(1, 1), NONE);
        due("what 1 is", x.task(1, 0), 0);
        due("steps of 1", x.task(1, 1), 0);
        due("for which 1 waits", x.task(1, 3), NONE);
        due("age of 1", x.task(1, 4), NONE);
        due("fallen", x.task(1, 5), 1);
        due("the other one has not", x.task(0, 5), 0);
        due("whether 0 is in a ring", x.task(0, 6), 0);
        due("what 0 is", x.task(0, 0), 2);
        due("its steps", x.task(0, 1), 1);
        due("gates that 0 holds", x.task(0, 2), 1);
        due("who waits for b", x.gate(1, 4), 1);
        due("how many have begun", x.count(7), 2);
    }

    private static void victimsLater() {
        promise(9, "when behind its TURN a TASK WAITS and is in a RING, a VICTIM of that RING is chosen, but by 0");
        GateTable x = with("a(b())", "b(a())", "a()");
        turns(x, 0, 1, 0, 1, 2);
        x.rule(2);
        due("turn(2), in no ring", x.turn(2), 1);
        due("the ring", x.count(5), 3);
        due("turn(1), in the ring that was", x.turn(1), 10);
        due("turn(0), begun anew", x.turn(0), 0);
        due("its age", x.task(0, 4), 3);
        due("turn(1), for the gate that 0 holds again", x.turn(1), 1);
        due("turn(0): the victim again, by like steps", x.turn(0), 10);
        due("fallen", x.task(0, 5), 2);
        due("begun", x.count(7), 4);
    }

    // ---- promise 10

    private static void goNumbers() {
        promise(10, "n TURNS (1 .. 40); BAD");
        GateTable x = with("a(b())", "b(a())");
        for (int n : outside(1, 40)) {
            due("go(" + n + ")", x.go(n), BAD);
        }
        due("go(-40)", x.go(-40), BAD);
        due("the draw", draw(x), 1);
        due("go(1)", x.go(1), 1);
        turns(x, 2, 3, 0, 1, 0, 1);
        due("a ring", x.count(5), 3);
        due("go(39), turns of those that wait", x.go(39), 39);
        due("go(40)", x.go(40), 40);
        due("what may be undone", x.undo(), 5);
    }

    private static void goByDraw() {
        promise(10, "the one with (x left over by m) of lesser numbers among them has a TURN");
        for (int left = 0; left < 4; left++) {
            GateTable x = with("a()", "a()", "a()", "a()");
            x.seed(seedFor(4096 + left, 65535));
            due("go(1) among 4", x.go(1), 1);
            due("the one that has begun", x.count(1), 1 << left);
        }
        int[] among = {1, 2, 3};
        for (int left = 0; left < 3; left++) {
            GateTable x = with("", "a()", "a()", "a()");
            x.turn(0);
            x.seed(seedFor(3 * 1000 + left, 0));
            due("go(1) among 3", x.go(1), 1);
            due("the one that goes", x.count(1), 1 << among[left]);
        }
        int[] broken = {0, 3};
        for (int left = 0; left < 2; left++) {
            GateTable x = with("a()", "!", "", "a()");
            turns(x, 1, 2);
            x.seed(seedFor(32766 + left, 0));
            due("go(1) among 2", x.go(1), 1);
            due("the one that goes", x.count(1), 1 << broken[left]);
        }
        GateTable x = with("", "", "a()", "");
        turns(x, 0, 1, 3);
        x.seed(seedFor(12345, 7));
        due("go(1) among 1", x.go(1), 1);
        due("the one that goes", x.count(1), 4);
        due("the draw", draw(x), 12345 * 65536 + 7);
        GateTable y = with("a()", "a()");
        turns(y, 0, 1, 2, 3);
        y.seed(seedFor(1, 0));
        due("go(1): one that is WAITING is among them", y.go(1), 1);
        due("it is WAITING", y.count(2), 2);
        due("the other one has no turn", y.task(0, 1), 1);
    }

    private static void goToTheEnd() {
        promise(10, "no more, if there is none (nothing is drawn then): how many TURNS");
        GateTable x = with("a()", "!", "b(b+1)");
        due("go(40): 2, 1, 3, 1 turns", x.go(40), 7);
        due("ended", x.count(3), 13);
        due("broken", x.count(4), 2);
        int draw = draw(x);
        int known = x.count(8);
        due("go(1), none being left", x.go(1), 0);
        due("go(40), none being left", x.go(40), 0);
        due("the draw", draw(x), draw);
        due("what may be undone: TURNS gone (if any)", x.count(8), known);
        long seven = 1;
        for (int k = 0; k < 7; k++) {
            seven = seven * 1103515245L + 12345L & 0x7fffffffL;
        }
        due("the draw, drawn 7 times", draw, seven);
        due("all turns are undone at once", x.undo(), 3);
        due("none has begun", x.count(7), 0);
        due("the draw", draw(x), 1);
        GateTable y = new GateTable();
        due("go(4) of no programs", y.go(4), 4);
        due("go(1) then", y.go(1), 0);
        GateTable z = new GateTable();
        due("go(3) of no programs", z.go(3), 3);
        due("go(2) then", z.go(2), 1);
    }

    // ---- promise 11

    private static void laidOrNot() {
        promise(11, "how many TASKS were not IDLE. NOT: all were, none has begun");
        GateTable x = with("a()", "a()", "!", "");
        due("lay() of a new table", x.lay(), NOT);
        x.run(0);
        due("lay() behind a run", x.lay(), NOT);
        x.turn(3);
        due("lay() behind one ENDED", x.lay(), 1);
        due("lay() again", x.lay(), NOT);
        x.turn(2);
        due("lay() behind one BROKEN", x.lay(), 1);
        turns(x, 0, 1);
        due("lay() behind one GOING, one WAITING", x.lay(), 2);
        turns(x, 0, 1, 2, 3);
        due("lay() behind all", x.lay(), 4);
        x.turn(3);
        x.program(3);
        due("lay(), all IDLE, but one has begun", x.lay(), 0);
        due("lay() again", x.lay(), NOT);
        x.turn(3);
        x.gone(5);
        due("lay(), all IDLE by a gate, but one has begun", x.lay(), 0);
        due("lay() again", x.lay(), NOT);
        GateTable y = with("a(b())", "b(a())");
        y.rule(1);
        turns(y, 0, 1, 0, 1);
        due("lay() behind a victim, which is IDLE", y.lay(), 1);
    }

    private static void laidAnew() {
        promise(11, "what TASKS that are GOING or WAITING have ADDED since they began is taken back");
        GateTable x = with("a(a+1)b(b+2c())", "c(c+3)d(d-4b())", "e(e+5)", "f(f+6)!");
        turns(x, 2, 2, 2, 3, 3, 3, 0, 0, 0, 0, 0, 1, 1, 1, 1, 1);
        due("1 waits", x.turn(1), 1);
        due("0 goes", x.task(0, 0), 1);
        int[] cells = {1, 2, 3, -4, 5, 6};
        for (int g = 0; g < 6; g++) {
            due("the cell of gate " + g + " ahead of it", x.gate(g, 0), 1000000 + cells[g]);
        }
        due("lay()", x.lay(), 4);
        int[] then = {0, 0, 0, 0, 5, 6};
        for (int g = 0; g < 6; g++) {
            due("the cell of gate " + g, x.gate(g, 0), 1000000 + then[g]);
            due("the holder of gate " + g, x.gate(g, 1), NONE);
            due("how many times", x.gate(g, 2), 0);
            due("who waits for gate " + g, x.gate(g, 4), 0);
        }
        promise(11, "all TASKS are IDLE, no STEP done, none has FALLEN or begun; no GATE is held");
        for (int t = 0; t < 4; t++) {
            int[] task = {0, 0, 0, NONE, NONE, 0, 0};
            for (int what = 0; what < task.length; what++) {
                due("task(" + t + ", " + what + ")", x.task(t, what), task[what]);
            }
        }
        due("begun", x.count(7), 0);
        GateTable y = with("a(b())", "b(a())");
        y.rule(3);
        turns(y, 0, 1, 0, 1);
        due("fallen", y.task(0, 5), 1);
        due("lay()", y.lay(), 1);
        due("fallen", y.task(0, 5), 0);
        due("RULE stays", y.count(0), 3);
        due("the program stays", y.alone(0, 0), 4);
    }

    private static void laidAfterEachStep() {
        promise(11, "what TASKS that are GOING have ADDED since they began is taken back, no more");
        int[] cells = {0, 0, 4, 1, 1, 1, -2};
        for (int done = 1; done <= 7; done++) {
            GateTable x = with("", "", "a(a+4a-3b()a-3)");
            x.run(2);
            for (int k = 0; k < done; k++) {
                due("turn(2), step " + k, x.turn(2), k < 6 ? 0 : 2);
            }
            due("the cell behind " + done + " steps", x.gate(0, 0), 1000000 - 2 + (done < 7 ? cells[done] : -2));
            due("lay()", x.lay(), 1);
            due("the cell then", x.gate(0, 0), 1000000 - 2 + (done < 7 ? 0 : -2));
        }
    }

    // ---- promise 12

    private static void gatesTold() {
        promise(12, "BAD");
        GateTable x = with("f(f(f(f(f(f())))))", "f(f-9)", "f()", "f()");
        for (int g : outside(0, 5)) {
            due("gate(" + g + ", 0)", x.gate(g, 0), BAD);
        }
        for (int what : outside(0, 4)) {
            due("gate(0, " + what + ")", x.gate(0, what), BAD);
        }
        promise(12, "0 its CELL and 1000000 together, 1 the TASK that HOLDS it (NONE), 2 how many times");
        x.run(1);
        due("a cell below 0", x.gate(5, 0), 999991);
        due("the cell beside", x.gate(4, 0), 1000000);
        due("the holder of a free one", x.gate(5, 1), NONE);
        due("how many times", x.gate(5, 2), 0);
        turns(x, 0, 0, 0, 0, 0, 0);
        due("held by 0", x.gate(5, 1), 0);
        due("six times", x.gate(5, 2), 6);
        promise(12, "4 TASKS that WAIT for it (a set)");
        due("none waits", x.gate(5, 4), 0);
        turns(x, 3);
        due("3 waits", x.gate(5, 4), 8);
        turns(x, 1, 2);
        due("1, 2, 3 wait", x.gate(5, 4), 14);
        due("for another one", x.gate(4, 4), 0);
        turns(x, 0, 0, 0, 0, 0, 0);
        due("free", x.gate(5, 1), NONE);
        due("1, 2, 3 wait yet", x.gate(5, 4), 14);
        turns(x, 2);
        due("held by 2", x.gate(5, 1), 2);
        due("1 and 3 wait", x.gate(5, 4), 10);
        promise(12, "3 whether it's GONE (1, 0)");
        due("there", x.gate(5, 3), 0);
        GateTable y = new GateTable();
        y.gone(5);
        due("gone", y.gate(5, 3), 1);
        due("the one beside", y.gate(4, 3), 0);
    }

    // ---- promise 13

    private static void tasksTold() {
        promise(13, "BAD");
        GateTable x = with("f(a(e()))", "e(f())", "", "!");
        for (int t : outside(0, 3)) {
            due("task(" + t + ", 0)", x.task(t, 0), BAD);
        }
        for (int what : outside(0, 6)) {
            due("task(0, " + what + ")", x.task(0, what), BAD);
        }
        promise(13, "0 what it is (0 .. 4), 1 STEPS done, 2 GATES that it HOLDS, 3 for which it WAITS, 4 AGE, 6 in a RING");
        turns(x, 2, 3, 1, 0, 0, 1);
        int[][] want = {{1, 2, 33, NONE, 3, 0, 0}, {2, 1, 16, 5, 2, 0, 0}, {3, 0, 0, NONE, 0, 0, 0}, {4, 0, 0, NONE, 1, 0, 0}};
        for (int t = 0; t < 4; t++) {
            for (int what = 0; what < 7; what++) {
                due("task(" + t + ", " + what + ")", x.task(t, what), want[t][what]);
            }
        }
        due("turn(0)", x.turn(0), 4);
        due("in a ring", x.task(0, 6) + x.task(1, 6), 2);
        due("for which 0 waits", x.task(0, 3), 4);
        due("not in a ring", x.task(2, 6) + x.task(3, 6), 0);
        promise(13, "5 how often it has FALLEN");
        x.rule(4);
        due("turn(0)", x.turn(0), 11);
        due("fallen", x.task(1, 5), 1);
        promise(13, "4 AGE (NONE: IDLE)");
        due("age", x.task(1, 4), NONE);
        due("turn(0)", x.turn(0), 0);
        due("age of one begun anew", x.turn(1) + x.task(1, 4), 1 + 4);
    }

    // ---- promise 14

    private static void counts() {
        promise(14, "BAD");
        GateTable x = with("a()", "a()", "", "!");
        for (int what : outside(0, 8)) {
            due("count(" + what + ")", x.count(what), BAD);
        }
        promise(14, "0 RULE, TASKS that are 1 GOING, 2 WAITING, 3 ENDED, 4 BROKEN, 5 in a RING (sets), 6 GONE, 7 begun, 8 UNDONE");
        due("known", x.count(8), 4);
        x.gone(0);
        x.gone(5);
        due("gone", x.count(6), 33);
        due("known", x.count(8), 6);
        x.gone(0);
        x.rule(4);
        due("known, no more than 6", x.count(8), 6);
        turns(x, 0, 1, 2, 3);
        int[] want = {4, 1, 2, 4, 8, 0, 32, 4, 6};
        for (int what = 0; what < want.length; what++) {
            due("count(" + what + ")", x.count(what), want[what]);
        }
        GateTable y = with("f()", "f()", "f()", "f()");
        turns(y, 3, 0, 1, 2);
        due("going", y.count(1), 8);
        due("waiting", y.count(2), 7);
        GateTable z = new GateTable();
        z.go(4);
        due("ended, all", z.count(3), 15);
        GateTable w = with("!", "!", "!", "!");
        w.go(4);
        due("broken, all", w.count(4), 15);
        promise(14, "7 how many have begun, each time counted, since THE TABLE was laid");
        w.program(0);
        w.turn(0);
        due("begun", w.count(7), 5);
        w.lay();
        due("begun", w.count(7), 0);
        w.turn(0);
        due("begun", w.count(7), 1);
    }
}
