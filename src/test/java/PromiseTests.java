/** For each promise of the document: ordinary inputs, the edges that it names, wrong inputs. */
public final class PromiseTests {
    private static final int BAD = -1, NOT = -2, FULL = -3, NONE = -4, NULL = -11, CAST = -12, INDEX = -13, SIZE = -14;
    private static int right = 0;
    private static int wrong = 0;

    public static void main(String[] args) {
        newObject();
        typed();
        programsTold();
        faults();
        fullPrograms();
        gatesGone();
        runAlone();
        aloneSummaries();
        stepsOfTraces();
        rules();
        turns();
        ringsAndVictims();
        turnsByDraw();
        laid();
        gatesTold();
        tasksTold();
        counts();
        orderOfGates();
        loopsOfGates();
        waysOfTwo();
        oddsOfTwo();
        nearOfTwo();
        drifts();
        undone();
        seeds();
        images();
        triedRows();
        films();
        sheetsMade();
        drops();
        items();
        copies();
        System.out.println(right + " answers right, " + wrong + " wrong");
        if (wrong != 0) {
            System.exit(1);
        }
    }

    private static void due(String call, long got, long want) {
        if (got == want) {
            right++;
        } else {
            wrong++;
            System.out.println(call + " answered " + got + ", due is " + want);
        }
    }

    private static void type(GateTable x, String text) {
        for (int k = 0; k < text.length(); k++) {
            due("type of " + text, x.type(text.charAt(k)), k + 1);
        }
    }

    private static int tell(GateTable x, int task, String text) {
        type(x, text);
        return x.program(task);
    }

    private static GateTable with(String... programs) {
        GateTable x = new GateTable();
        for (int t = 0; t < programs.length; t++) {
            due("program " + programs[t], Math.min(0, tell(x, t, programs[t])), 0);
        }
        return x;
    }

    private static String trace(GateTable x, int task) {
        StringBuilder text = new StringBuilder();
        for (int k = 0; k < x.alone(task, 0); k++) {
            int kind = x.step(task, k, 0);
            int add = x.step(task, k, 2) - 10;
            text.append((char) ('a' + x.step(task, k, 1)));
            text.append(kind == 0 ? "(" : kind == 1 ? ")" : add < 0 ? "" + add : "+" + add);
            if (kind != 2) {
                due("step 2 of another kind", add, 0);
            }
        }
        return text.toString();
    }

    private static void traced(String program, String want) {
        GateTable x = with(program);
        String got = trace(x, 0);
        due("trace of " + program + ": " + got + ", want " + want, got.equals(want) ? 1 : 0, 1);
    }

    private static void summary(String program, int... want) {
        GateTable x = with(program);
        for (int what = 0; what < want.length; what++) {
            due("alone(0, " + what + ") of " + program, x.alone(0, what), want[what]);
        }
    }

    // 1
    private static void newObject() {
        GateTable x = new GateTable();
        for (int what = 0; what < 9; what++) {
            due("new count " + what, x.count(what), 0);
        }
        for (int g = 0; g < 6; g++) {
            due("new cell", x.gate(g, 0), 1000000);
            due("new holder", x.gate(g, 1), NONE);
            due("new holds", x.gate(g, 2), 0);
            due("new gone", x.gate(g, 3), 0);
        }
        for (int t = 0; t < 4; t++) {
            due("new state", x.task(t, 0), 0);
            due("new steps", x.alone(t, 0), 0);
            due("new age", x.task(t, 4), NONE);
        }
        due("new restore", x.restore(), NONE);
        due("new undo", x.undo(), NONE);
        due("new draw", x.seed(5), 1);
        for (int s = 0; s < 4; s++) {
            due("new sheet", x.drop(s), NULL);
        }
        due("new tape", x.type('a'), 1);
    }

    // 2
    private static void typed() {
        GateTable x = new GateTable();
        due("type 31", x.type(31), BAD);
        due("type 127", x.type(127), BAD);
        due("type -1", x.type(-1), BAD);
        due("type big", x.type(65536 + 'a'), BAD);
        due("type 32", x.type(32), 1);
        due("type 126", x.type(126), 2);
        for (int k = 3; k <= 60; k++) {
            due("type on", x.type(' '), k);
        }
        due("type 61", x.type('a'), FULL);
        due("type bad of a full tape", x.type(200), BAD);
        due("the fault of the full tape", x.program(0), -21);
        due("type behind", x.type('a'), 1);
    }

    // 3
    private static void programsTold() {
        GateTable x = new GateTable();
        type(x, "a(a+1)");
        due("program -1", x.program(-1), BAD);
        due("program 4", x.program(4), BAD);
        due("BAD keeps the tape", x.program(3), 3);
        due("the tape is empty then", x.program(2), 0);
        due("told", x.count(8), 2);
        due("turn", x.turn(3), 0);
        type(x, "b()");
        due("program while one goes", x.program(0), NOT);
        due("NOT empties the tape", x.type('c'), 1);
        due("not even a fault is told then", x.program(0), NOT);
        due("nothing changed", x.alone(0, 0), 0);
        x.turn(3);
        due("ended", x.turn(3), 2);
        due("steps done", x.task(3, 1), 3);
        due("another program", tell(x, 0, "b(b-9)"), 3);
        due("the others stay", x.task(3, 0), 3);
        due("its own program", tell(x, 3, "c()"), 2);
        due("it is idle then", x.task(3, 0), 0);
        due("no step done then", x.task(3, 1), 0);
        due("no age then", x.task(3, 4), NONE);
        due("begun stays", x.count(7), 1);
        due("cells stay", x.gate(0, 0), 1000001);
        due("program of blanks", tell(x, 3, "   "), 0);
        due("no steps then", x.alone(3, 0), 0);

        GateTable z = with("a(b())", "b(a())");
        z.rule(4);
        z.turn(0);
        z.turn(1);
        z.turn(0);
        due("victim", z.turn(1), 11);
        z.turn(0);
        z.turn(0);
        due("it ends", z.turn(0), 2);
        due("told to the fallen", tell(z, 1, "c()"), 2);
        due("fallen stays", z.task(1, 5), 1);
        due("begun stays too", z.count(7), 2);
    }

    private static void faulty(String text, int place) {
        GateTable x = new GateTable();
        due("fault of '" + text + "'", tell(x, 0, text), -20 - place);
        due("the tape is empty behind a fault", x.type('a'), 1);
        due("nothing to undo behind a fault", x.count(8), 0);
    }

    private static void faults() {
        faulty("a", 1);
        faulty("a  ", 3);
        faulty("a(", 2);
        faulty("a( ", 3);
        faulty(")", 0);
        faulty("]", 0);
        faulty("}", 0);
        faulty("  )", 2);
        faulty("a)", 1);
        faulty("a!", 1);
        faulty("aa", 1);
        faulty("a+", 2);
        faulty("a+0", 2);
        faulty("a-0", 2);
        faulty("a++", 2);
        faulty("a+ a", 3);
        faulty("a+1 1", 4);
        faulty("a+11", 3);
        faulty("g()", 0);
        faulty("A()", 0);
        faulty("1{}", 0);
        faulty("6{}", 0);
        faulty("0{}", 0);
        faulty("2", 1);
        faulty("2[]", 1);
        faulty("2a()", 1);
        faulty("22{}", 1);
        faulty("{}", 0);
        faulty("()", 0);
        faulty("(", 0);
        faulty("a(]", 2);
        faulty("[)", 1);
        faulty("2{)", 2);
        faulty("a(b([2{ ) }]))", 8);
        faulty("[[[[[[[]]]]]]]", 6);
        faulty("[[[[[[]]]]]][[[[[[[", 18);
        faulty("[[[[[[ a (", 9);
        faulty("[[[[[[a+1 2{", 11);
        faulty("~", 0);
        due("six open", tell(new GateTable(), 0, "[[[[[[]]]]]] 2{3{4{5{2{3{}}}}}}"), 0);
        due("blanks everywhere", tell(new GateTable(), 0, " a ( a + 3 2 { a - 1 } [ ! ] ) "), 5);
    }

    private static void fullPrograms() {
        due("30 steps", tell(new GateTable(), 0, "5{a(5{a+1}[!])}"), FULL);
        due("30 steps", tell(new GateTable(), 0, "5{a(4{a+1})}"), 30);
        due("31 steps", tell(new GateTable(), 0, "a(4{5{a+1}}5{a-2}4{a+3})"), FULL);
        due("30 steps in one", tell(new GateTable(), 0, "a(4{5{a+1}}5{a-2}3{a+3})"), 30);
        due("31 by taking back", tell(new GateTable(), 0, "a(5{a+1}5{a+1}4{a+1}a+1!)"), FULL);
        due("30 by taking back", tell(new GateTable(), 0, "a(5{a+1}5{a+1}4{a+1}!)"), 30);
        due("no try mends what is too long", tell(new GateTable(), 0, "[5{5{a()a()}}]"), FULL);
        due("the end is not seen behind 30", tell(new GateTable(), 0, "5{5{5{5{5{a()}}}}}"), FULL);
        GateTable x = with("b()");
        due("full", tell(x, 0, "5{5{a()a()}}"), FULL);
        due("as it was", x.alone(0, 0), 2);
        due("nothing more to undo", x.count(8), 1);
        due("the tape is empty", x.type('a'), 1);
        due("often nothing", tell(new GateTable(), 0, "5{5{5{5{5{5{}}}}}}"), 0);
    }

    // 4
    private static void gatesGone() {
        GateTable x = with("a(a+1)", "[b(b+2)]b(!)");
        due("gone -1", x.gone(-1), BAD);
        due("gone 6", x.gone(6), BAD);
        due("gone b", x.gone(1), 1);
        due("set", x.count(6), 2);
        due("gate", x.gate(1, 3), 1);
        due("broken by it", x.alone(1, 1), 3);
        due("the gate", x.alone(1, 2), 1);
        due("mended", x.alone(1, 3), 1);
        due("no step", x.alone(1, 0), 0);
        due("another trace", x.alone(0, 0), 3);
        due("broken as it begins", x.turn(1), 3);
        x.turn(0);
        due("gone while one goes", x.gone(1), NOT);
        x.turn(0);
        x.turn(0);
        due("there again", x.gone(1), 0);
        due("set then", x.count(6), 0);
        due("all idle", x.count(3) + x.count(4), 0);
        due("no age", x.task(0, 4), NONE);
        due("no step done", x.task(0, 1), 0);
        due("begun stays", x.count(7), 2);
        due("cells stay", x.gate(0, 0), 1000001);
        due("trace again", x.alone(1, 0), 5);

        due("12 a time", tell(new GateTable(), 1, "2{[a()5{b()}!]}"), 24);
        GateTable z = new GateTable();
        z.gone(0);
        due("fits while a is gone", tell(z, 2, "5{[a()5{b()}]}"), 0);
        due("full when it comes", z.gone(0), FULL);
        due("still gone", z.gate(0, 3), 1);
        due("nothing more to undo", z.count(8), 2);
        GateTable v = with("", "", "", "a([5{5{a+1}}d()])");
        due("29 there", v.alone(3, 0), 29);
        due("full when d goes, all being taken back", v.gone(3), FULL);
        due("still there", v.gate(3, 3), 0);
        due("another one goes", v.gone(2), 1);
        due("as it was", v.alone(3, 0), 29);
    }

    // 5
    private static void runAlone() {
        GateTable x = with("a(a+5 b(b-3))", "a(a+9!)");
        due("run -1", x.run(-1), BAD);
        due("run 4", x.run(4), BAD);
        due("run", x.run(0), 6);
        due("cell", x.gate(0, 0), 1000005);
        due("cell", x.gate(1, 0), 999997);
        due("idle yet", x.task(0, 0), 0);
        due("none has begun", x.count(7), 0);
        due("a broken one", x.run(1), 4);
        due("no cell changes", x.gate(0, 0), 1000005);
        due("run of none", x.run(3), 0);
        due("each may be undone", x.count(8), 5);
        x.turn(0);
        due("run while one goes", x.run(1), NOT);
        for (int k = 0; k < 5; k++) {
            x.turn(0);
        }
        due("ended", x.task(0, 0), 3);
        due("run of an ended one", x.run(0), 6);
        due("ended yet", x.task(0, 0), 3);
        due("cell", x.gate(0, 0), 1000015);
    }

    // 6
    private static void aloneSummaries() {
        summary("", 0, 0, NONE, 0, 0, 0, BAD);
        summary("a(b(a(a+1)))", 7, 0, NONE, 0, 1, 3, BAD);
        summary("!", 0, 2, NONE, 0, 0, 0);
        summary("a+1", 0, 1, 0, 0, 0, 0);
        summary("a(b+1)", 2, 1, 1, 0, 0, 1);
        summary("a()f-1", 2, 1, 5, 0, 0, 1);
        summary("[a+1]!", 0, 2, NONE, 1, 0, 0);
        summary("[a+1]", 0, 0, NONE, 1, 0, 0);
        summary("5{5{5{5{5{[!][!]}}}}}", 0, 0, NONE, 6250, 0, 0);
        summary("3{[!]2{[a()!]}}", 12, 0, NONE, 9, 0, 1);
        summary("[[[!]!]!]c+1", 0, 1, 2, 3, 0, 0);
        summary("a(a(a(a(a(a())))))", 12, 0, NONE, 0, 5, 6);
        summary("a(a())a()b(b())", 10, 0, NONE, 0, 2, 2);
        GateTable x = new GateTable();
        due("alone -1", x.alone(-1, 0), BAD);
        due("alone 4", x.alone(4, 0), BAD);
        due("alone 0, -1", x.alone(0, -1), BAD);
        x.gone(4);
        tell(x, 0, "a(e())");
        due("broken by a gate gone", x.alone(0, 1), 3);
        due("that gate", x.alone(0, 2), 4);
        due("in one stay", x.alone(0, 5), 1);
        tell(x, 0, "a(e+1)");
        due("not in a gate gone", x.alone(0, 1), 1);
        due("that gate", x.alone(0, 2), 4);
    }

    // 7
    private static void stepsOfTraces() {
        traced("a(a+3 b(b+1 a-1 a(a+2)) a+5)", "a(a+3b(b+1a-1a(a+2a)b)a+5a)");
        traced("a(a+3 b(b+1 a-1 a(a+2)!) a+5)", "a(a+3b(b+1a-1a(a+2a)a+1b-1b)a-3a)");
        traced("a([a+3 b(b+1 a-1)a+4!]a+9)", "a(a+3b(b+1a-1b)a+4a-4a-3a+9a)");
        traced("a([a+1]!)", "a(a+1a-1a)");
        traced("a(a+1[a+2!]a+3!)", "a(a+1a+2a-2a+3a-3a-1a)");
        traced("3{a(a+1!)}", "a(a+1a-1a)");
        traced("[3{a(a+1)!}]b()", "a(a+1a)b(b)");
        traced("2{[a(a+1)b(!)]}", "a(a+1a)b(b)a(a+1a)b(b)");
        traced("a(b(a+1)!)", "a(b(a+1b)a)");
        traced("a(a-9 2{a+1 a+2}!)", "a(a-9a+1a+2a+1a+2a-2a-1a-2a-1a+9a)");
        traced("[a([b(a+1 c+1)])]", "a(b(a+1a-1b)a)");
        traced("a(a(a+1)a+2!)", "a(a(a+1a)a+2a-2a)");
        GateTable x = with("a(a-9)");
        due("step bad task", x.step(4, 0, 0), BAD);
        due("step bad task", x.step(-1, 0, 0), BAD);
        due("step -1", x.step(0, -1, 0), BAD);
        due("step 3", x.step(0, 3, 0), BAD);
        due("step what", x.step(0, 0, 3), BAD);
        due("step what", x.step(0, 0, -1), BAD);
        due("step adds", x.step(0, 1, 2), 1);
        due("step adds nothing", x.step(0, 2, 2), 10);
    }

    // 8
    private static void rules() {
        GateTable x = new GateTable();
        due("rule 0 at first", x.rule(0), NOT);
        due("rule -1", x.rule(-1), BAD);
        due("rule 5", x.rule(5), BAD);
        due("rule 4", x.rule(4), 0);
        due("rule 4 again", x.rule(4), NOT);
        due("rule 2", x.rule(2), 4);
        due("rule told", x.count(0), 2);
        due("two may be undone", x.count(8), 2);
    }

    // 9
    private static void turns() {
        GateTable x = with("a(a+1)", "a(a+2!)", "!");
        due("turn -1", x.turn(-1), BAD);
        due("turn 4", x.turn(4), BAD);
        due("first", x.turn(0), 0);
        due("waits", x.turn(1), 1);
        due("waits", x.turn(1), 1);
        due("age of one that waits", x.task(1, 4), 1);
        due("no step done", x.task(1, 1), 0);
        due("added", x.turn(0), 0);
        due("cell", x.gate(0, 0), 1000001);
        due("ended", x.turn(0), 2);
        due("waits yet, though it is free", x.task(1, 0), 2);
        due("ended before", x.turn(0), NOT);
        due("enters", x.turn(1), 0);
        due("goes", x.task(1, 0), 1);
        due("waits for none", x.task(1, 3), NONE);
        due("adds", x.turn(1), 0);
        due("takes back", x.turn(1), 0);
        due("broken", x.turn(1), 3);
        due("cell", x.gate(0, 0), 1000001);
        due("broken before", x.turn(1), NOT);
        due("broken as it begins", x.turn(2), 3);
        due("its age", x.task(2, 4), 2);
        due("ended as it begins", x.turn(3), 2);
        due("holds twice", with("a(a())").turn(0), 0);

        GateTable y = with("a(a())", "a()");
        y.turn(0);
        y.turn(0);
        due("twice", y.gate(0, 2), 2);
        y.turn(0);
        due("once", y.gate(0, 2), 1);
        due("not free by once", y.turn(1), 1);
        y.turn(0);
        due("free", y.gate(0, 1), NONE);
    }

    /** Tasks 0 and 1 in a ring but for the last turn, which is task 1's. */
    private static GateTable ring(int rule) {
        GateTable x = with("c(c+1)a(a+1b(b+1))", "b(a(a+1))");
        if (rule != 0) {
            x.rule(rule);
        }
        for (int k = 0; k < 5; k++) {
            due("on", x.turn(0), 0);
        }
        due("on", x.turn(1), 0);
        due("waits", x.turn(0), 1);
        due("no ring yet", x.count(5), 0);
        return x;
    }

    private static void ringsAndVictims() {
        due("a ring by rule 0", ring(0).turn(1), 4);
        due("rule 1: the last", ring(1).turn(1), 11);
        due("rule 2: the fewest steps", ring(2).turn(1), 11);
        due("rule 3: of like ones the least", ring(3).turn(1), 10);
        due("rule 4: the greatest", ring(4).turn(1), 11);

        GateTable x = ring(3);
        x.turn(1);
        due("all is taken back", x.gate(0, 0), 1000000);
        due("what was sealed, too", x.gate(2, 0), 1000000);
        due("the victim", x.task(0, 0), 0);
        due("its steps", x.task(0, 1), 0);
        due("its gates", x.task(0, 2), 0);
        due("its fall", x.task(0, 5), 1);
        due("its age", x.task(0, 4), NONE);
        due("it waits for none", x.task(0, 3), NONE);
        due("the other one waits yet", x.task(1, 0), 2);
        due("for a free gate", x.gate(0, 1), NONE);
        due("it goes on", x.turn(1), 0);
        due("begun anew", x.turn(0), 0);
        due("its new age", x.task(0, 4), 2);
        due("each beginning counts", x.count(7), 3);

        GateTable y = with("a(b())", "b(c())", "c(a())", "a()");
        y.turn(2);
        y.turn(1);
        y.turn(0);
        due("behind no ring", y.turn(3), 1);
        y.turn(2);
        y.turn(1);
        due("three in a ring", y.turn(0), 4);
        due("the set", y.count(5), 7);
        due("3 waits for a ring, in none", y.turn(3), 1);
        due("in none", y.task(3, 6), 0);
        due("in one", y.task(2, 6), 1);
        y.rule(1);
        due("3 is in none: none falls", y.turn(3), 1);
        due("the last that began", y.turn(2), 10);
        due("no ring then", y.count(5), 0);
        y.undo();
        y.rule(4);
        due("the greatest in the ring", y.turn(1), 12);
        y.undo();
        y.rule(2);
        due("of like ones the least", y.turn(1), 10);

        GateTable w = with("a(b())", "b(c())", "c(d())", "d(a())");
        for (int k = 0; k < 7; k++) {
            due("no ring yet", w.turn(k % 4), k < 4 ? 0 : 1);
        }
        due("four in a ring", w.turn(3), 4);
        due("all of them", w.count(5), 15);
        w.rule(2);
        due("the least of four", w.turn(3), 10);
        due("none in a ring", w.count(5), 0);

        GateTable z = with("a(a(b()))", "c(b(a()))");
        z.rule(3);
        z.turn(0);
        z.turn(0);
        z.turn(1);
        z.turn(1);
        due("waits", z.turn(1), 1);
        due("fewest gates, not holds", z.turn(0), 10);
        due("free, though held twice", z.gate(0, 2), 0);
    }

    // 10
    private static void turnsByDraw() {
        GateTable x = with("a(a+1)", "b(b+1)", "c(c+1)", "d(d+1)");
        due("go 0", x.go(0), BAD);
        due("go -1", x.go(-1), BAD);
        due("go 41", x.go(41), BAD);
        due("nothing drawn", x.seed(1), 1);
        // 1 becomes 1103527590, x is 16838; 2524885223, of 31 bits 377401575, x is 5758
        due("go 1", x.go(1), 1);
        due("16838 left over by 4 is 2", x.task(2, 1), 1);
        due("drawn", x.seed(1103527590), 1103527590);
        due("go 1", x.go(1), 1);
        due("5758 left over by 4 is 2", x.task(2, 1), 2);
        due("drawn", x.seed(377401575), 377401575);
        due("go 40", x.go(40), 10);
        due("all ended", x.count(3), 15);
        int draw = x.seed(7);
        x.seed(draw);
        due("go on", x.go(40), 0);
        due("nothing drawn", x.seed(draw), draw);
        due("what may be undone", x.undo(), 5);
        due("all turns at once", x.task(2, 1), 2);
        due("the draw too", x.seed(3), 377401575);

        GateTable y = with("a()", "b()");
        y.turn(0);
        y.turn(0);
        y.turn(2);
        y.turn(3);
        y.seed(1);
        due("one is left", y.go(1), 1);
        due("of lesser numbers among those left", y.task(1, 1), 1);
    }

    // 11
    private static void laid() {
        GateTable x = with("a(a+4 b(b+1)a+1)", "c(c+2)", "!", "a()");
        due("nothing to lay", x.lay(), NOT);
        due("not even to undo", x.count(8), 4);
        x.turn(0);
        x.turn(0);
        x.turn(3);
        x.turn(1);
        x.turn(1);
        x.turn(1);
        due("laid", x.lay(), 3);
        due("taken back", x.gate(0, 0), 1000000);
        due("an ended one's stays", x.gate(2, 0), 1000002);
        due("free", x.gate(0, 1), NONE);
        due("free", x.gate(0, 2), 0);
        due("idle", x.count(1) + x.count(2) + x.count(3) + x.count(4), 0);
        due("none has begun", x.count(7), 0);
        due("laid again", x.lay(), NOT);
        x.turn(2);
        due("a broken one", x.lay(), 1);
        x.turn(2);
        x.gone(5);
        due("all idle, but one has begun", x.lay(), 0);
        due("none has begun", x.count(7), 0);

        GateTable y = ring(4);
        y.turn(1);
        due("fallen", y.task(1, 5), 1);
        due("one is idle", y.lay(), 1);
        due("none has fallen", y.task(1, 5), 0);
    }

    // 12
    private static void gatesTold() {
        GateTable x = with("a(a-5 a())", "a()", "a()");
        due("gate -1", x.gate(-1, 0), BAD);
        due("gate 6", x.gate(6, 0), BAD);
        due("what -1", x.gate(0, -1), BAD);
        due("what 5", x.gate(0, 5), BAD);
        x.turn(0);
        x.turn(0);
        x.turn(0);
        x.turn(1);
        x.turn(2);
        due("cell", x.gate(0, 0), 999995);
        due("holder", x.gate(0, 1), 0);
        due("times", x.gate(0, 2), 2);
        due("gone", x.gate(0, 3), 0);
        due("waiting", x.gate(0, 4), 6);
        due("of another", x.gate(5, 4), 0);
    }

    // 13
    private static void tasksTold() {
        GateTable x = with("a(b(b+1))", "b(a())");
        due("task -1", x.task(-1, 0), BAD);
        due("task 4", x.task(4, 0), BAD);
        due("what -1", x.task(0, -1), BAD);
        due("what 7", x.task(0, 7), BAD);
        x.turn(1);
        x.turn(0);
        due("going", x.task(0, 0), 1);
        due("steps", x.task(0, 1), 1);
        due("holds", x.task(0, 2), 1);
        due("waits for none", x.task(0, 3), NONE);
        due("age", x.task(0, 4), 1);
        x.turn(0);
        due("waiting", x.task(0, 0), 2);
        due("for b", x.task(0, 3), 1);
        due("in no ring", x.task(0, 6), 0);
        x.turn(1);
        due("in a ring", x.task(0, 6), 1);
        due("never fallen", x.task(0, 5), 0);
    }

    // 14
    private static void counts() {
        GateTable x = with("a(b())", "a()", "", "!");
        x.gone(5);
        x.turn(0);
        x.turn(1);
        x.turn(2);
        x.turn(3);
        x.rule(3);
        due("rule", x.count(0), 3);
        due("going", x.count(1), 1);
        due("waiting", x.count(2), 2);
        due("ended", x.count(3), 4);
        due("broken", x.count(4), 8);
        due("in rings", x.count(5), 0);
        due("gone", x.count(6), 32);
        due("begun", x.count(7), 4);
        due("to undo", x.count(8), 6);
        due("count 9", x.count(9), BAD);
        due("count -1", x.count(-1), BAD);
    }

    // 15
    private static void orderOfGates() {
        GateTable x = with("a(b(c())a())", "d(d(e()))", "b(!)f()");
        due("a b", x.ahead(0, 1), 1);
        due("b a", x.ahead(1, 0), 0);
        due("a c", x.ahead(0, 2), 1);
        due("b c", x.ahead(1, 2), 1);
        due("d e", x.ahead(3, 4), 1);
        due("b f", x.ahead(1, 5), 0);
        due("same", x.ahead(0, 0), BAD);
        due("bad", x.ahead(0, 6), BAD);
        due("bad", x.ahead(-1, 0), BAD);
        GateTable y = with("a(b(a()))");
        due("a is in a: entered again", y.ahead(1, 0), 0);
        due("gone", y.gone(0), 1);
        due("no enter of b", y.ahead(0, 1), 0);
        GateTable z = with("a(!b())");
        due("never entered", z.ahead(0, 1), 0);
    }

    // 16
    private static void loopsOfGates() {
        GateTable x = with("a(b())", "b(c())", "c(d())");
        due("none", x.loops(0), 0);
        due("none", x.loops(1), NONE);
        due("none", x.loops(2), 0);
        due("what 3", x.loops(3), BAD);
        due("what -1", x.loops(-1), BAD);
        tell(x, 3, "d(a())");
        due("one", x.loops(0), 1);
        due("of four", x.loops(1), 4);
        due("those", x.loops(2), 15);
        tell(x, 3, "d(a())e(f())f(e())");
        due("of two", x.loops(1), 2);
        due("all", x.loops(2), 63);
        tell(x, 3, "d(b())a(f())");
        due("of three", x.loops(1), 3);
        due("not a, not f", x.loops(2), 14);
        GateTable y = with("a(b())b(c())c(d())d(e())e(f())f(a())");
        due("of six", y.loops(1), 6);
    }

    // 17
    private static void waysOfTwo() {
        GateTable x = with("a(b(b+1)a+1)", "b(a(a+7)b-1)", "5{c(4{c+1})}", "5{d(4{d+1})}");
        due("done", x.ways(0, 1, 0), 6);
        due("stuck", x.ways(0, 1, 1), 2);
        due("done", x.ways(1, 0, 0), 6);
        due("the most", x.ways(2, 3, 0), 118264581564861424L);
        due("none stuck", x.ways(2, 3, 1), 0);
        due("same", x.ways(2, 2, 0), BAD);
        due("bad", x.ways(-1, 0, 0), BAD);
        due("bad", x.ways(0, 4, 0), BAD);
        due("what", x.ways(0, 1, 2), BAD);
        due("what", x.ways(0, 1, -1), BAD);
        GateTable y = with("a(a+1)", "a(a+1)");
        due("one after the other", y.ways(0, 1, 0), 2);
        due("one of none", y.ways(0, 2, 0), 1);
        y.turn(0);
        due("from their beginnings", y.ways(0, 1, 0), 2);
    }

    // 18
    private static void oddsOfTwo() {
        GateTable x = with("a(b())", "b(a())", "c(a(b()))", "!");
        due("half above", x.odds(0, 1, 0), 1);
        due("half below", x.odds(0, 1, 1), 2);
        // of the ways to the ring, b( and then a(: 1/4 by way of b( and c( first, 1/8 by c( a( first
        due("above", x.odds(1, 2, 0), 3);
        due("below", x.odds(1, 2, 1), 8);
        due("either way round", x.odds(2, 1, 1), 8);
        due("none above", x.odds(0, 3, 0), 0);
        due("none below", x.odds(0, 3, 1), 1);
        due("same", x.odds(1, 1, 0), BAD);
        due("bad", x.odds(1, 4, 0), BAD);
        due("bad", x.odds(-1, 1, 0), BAD);
        due("what", x.odds(0, 1, 2), BAD);
        due("what", x.odds(0, 1, -1), BAD);
    }

    // 19
    private static void nearOfTwo() {
        GateTable x = with("a(b())", "b(a())", "c()d()a(b())", "c(c+1)");
        due("near", x.near(0, 1), 2);
        due("near", x.near(1, 2), 6);
        due("none", x.near(0, 2), NONE);
        due("none", x.near(0, 3), NONE);
        due("same", x.near(3, 3), BAD);
        due("bad", x.near(3, 4), BAD);
        due("bad", x.near(-1, 3), BAD);
    }

    // 20
    private static void drifts() {
        GateTable x = with("a(a+1)", "b(b+1)", "c(c+1)", "d(d+1)");
        due("drift 0", x.drift(0), BAD);
        due("drift 41", x.drift(41), BAD);
        due("drift -5", x.drift(-5), BAD);
        // x is 16838: left over by 8 is 6, lay, which is refused; 5758: left over by 8 is 6, too
        due("drift 1", x.drift(1), 15);
        due("drawn", x.seed(1103527590), 1103527590);
        due("a refused turn may be undone", x.count(8), 5);
        due("drift 1", x.drift(1), 15);
        due("drawn", x.seed(377401575), 377401575);
        due("undone", x.undo(), 5);
        due("the draw as ahead of it", x.seed(1), 1103527590);
        due("drift 40", x.drift(40) & ~15, 0);
        due("six known", x.count(8), 6);

        GateTable y = with("a(a+1)");
        // x of a draw of 0 behind: 12345 by 65536 is 0: turn(0)
        y.seed(0);
        due("turn of 0", y.drift(1), 14);
        due("one step", y.task(0, 1), 1);
        y.seed(seedFor(7 + 8 * 3));
        due("rule 3", y.drift(1), 14);
        due("rule 3", y.count(0), 3);
        y.seed(seedFor(6));
        due("lay", y.drift(1), 15);
        y.seed(seedFor(5 + 8 * 6));
        due("turn of 2", y.drift(1), 11);
        y.seed(seedFor(7 + 8 * 9));
        due("rule 4", y.drift(1), 11);
        due("rule 4", y.count(0), 4);
    }

    /** A seed from which x is drawn: the multiplier is odd, so it is undone by its inverse. */
    private static int seedFor(int x) {
        long inverse = 1;
        for (int k = 0; k < 6; k++) {
            inverse = inverse * (2 - 1103515245L * inverse) & 0x7fffffffL;
        }
        return (int) ((x * 65536L - 12345L) * inverse & 0x7fffffffL);
    }

    // 21
    private static void undone() {
        GateTable x = new GateTable();
        due("none", x.undo(), NONE);
        tell(x, 0, "a(a+1)");
        x.gone(1);
        x.rule(2);
        x.run(0);
        x.turn(0);
        x.lay();
        due("six", x.count(8), 6);
        x.seed(77);
        due("lay", x.undo(), 5);
        due("going", x.task(0, 0), 1);
        due("holds", x.gate(0, 1), 0);
        due("the draw", x.seed(1), 1);
        due("turn", x.undo(), 4);
        due("idle", x.task(0, 0), 0);
        due("none has begun", x.count(7), 0);
        due("free", x.gate(0, 1), NONE);
        due("run", x.undo(), 3);
        due("cell", x.gate(0, 0), 1000000);
        due("rule", x.undo(), 2);
        due("rule", x.count(0), 0);
        due("gone", x.undo(), 1);
        due("there", x.gate(1, 3), 0);
        due("program", x.undo(), 0);
        due("none", x.alone(0, 0), 0);
        due("no more", x.undo(), NONE);

        GateTable y = with("a()", "b()");
        for (int k = 0; k < 10; k++) {
            y.rule(1 + k % 2);
        }
        due("six known", y.count(8), 6);
        for (int k = 5; k >= 0; k--) {
            due("on", y.undo(), k);
        }
        due("older ones are lost", y.undo(), NONE);
        due("rule behind the fourth", y.count(0), 2);
        y.sheet(0, 0, 3);
        y.type('a');
        y.rule(0);
        y.sheet(0, 1, 4);
        y.type('(');
        due("undone", y.undo(), 0);
        due("sheets stay", y.drop(0), 4);
        due("the tape stays", y.type(')'), 3);
        y.image();
        y.rule(1);
        y.image();
        y.undo();
        due("images stay", y.restore(), 1);
        due("the latest", y.count(0), 1);
    }

    // 22
    private static void seeds() {
        GateTable x = new GateTable();
        due("1 at first", x.seed(0), 1);
        due("0", x.seed(Integer.MAX_VALUE), 0);
        due("bad", x.seed(-1), BAD);
        due("bad", x.seed(Integer.MIN_VALUE), BAD);
        due("the most", x.seed(4), Integer.MAX_VALUE);
        due("not to undo", x.count(8), 0);
    }

    // 23, 24
    private static void images() {
        GateTable x = with("a(a+1)", "b()");
        due("none", x.restore(), NONE);
        x.gone(3);
        x.rule(2);
        x.turn(0);
        x.seed(99);
        x.sheet(0, 2, 5);
        due("image", x.image(), 1);
        x.turn(0);
        x.turn(0);
        x.rule(0);
        x.gone(3);
        tell(x, 0, "c()");
        x.seed(5);
        x.sheet(0, 1, 7);
        x.type('x');
        due("restore", x.restore(), 1);
        due("rule", x.count(0), 2);
        due("gone", x.count(6), 8);
        due("program", x.alone(0, 0), 3);
        due("steps", x.task(0, 1), 1);
        due("holder", x.gate(0, 1), 0);
        due("cell", x.gate(0, 0), 1000000);
        due("draw", x.seed(6), 99);
        due("sheets stay", x.drop(0), 7);
        due("the tape stays", x.type('y'), 2);
        due("what may be undone", x.count(8), 5);
        due("undone as then", x.undo(), 4);
        due("ahead of the turn", x.task(0, 0), 0);
        due("again", x.restore(), 1);
        due("all again", x.task(0, 0), 1);
        due("the draw again", x.seed(6), 99);
        due("to undo again", x.count(8), 5);
        for (int k = 0; k < 9; k++) {
            x.undo();
        }
        due("what older ones were is kept", x.restore() + x.undo() + x.undo(), 1 + 4 + 3);
        due("rule undone", x.count(0), 0);

        GateTable y = new GateTable();
        y.seed(5);
        y.rule(1);
        y.rule(2);
        y.image();
        for (int k = 0; k < 8; k++) {
            y.seed(7);
            y.rule(3 + k % 2);
        }
        y.restore();
        due("the oldest, too", y.undo() + y.undo(), 1);
        due("as ahead of it", y.count(0), 0);
        due("its draw", y.seed(9), 5);
        due("no older one", y.undo(), NONE);
        y.rule(4);
        y.image();
        y.undo();
        y.restore();
        due("the only one", y.undo(), 0);
        due("as ahead of that", y.seed(9), 9);
    }

    private static void row(GateTable x, int sheet, int lane, int... values) {
        due("sheet", x.sheet(sheet, lane, values.length), values.length);
        for (int k = 0; k < values.length; k++) {
            due("item", x.item(sheet, lane, k, values[k]), 1);
        }
    }

    // 25
    private static void triedRows() {
        GateTable x = with("a(a+1)", "a(a+1)");
        due("nothing", x.tried(0, 0, 0, 1), NULL);
        row(x, 0, 0, 0, 0, 0, 1, 1, 0, 1);
        due("to the one that is over", x.tried(0, 0, 0, 7), 5);
        due("the table stays", x.task(0, 0), 0);
        due("nothing to undo", x.count(8), 2);
        due("fewer", x.tried(0, 0, 0, 2), 2);
        due("waits", x.tried(0, 0, 2, 2), 1);
        due("n 0", x.tried(0, 0, 0, 0), BAD);
        due("n 25", x.tried(0, 0, 0, 25), BAD);
        due("n -1", x.tried(0, 0, 0, -1), BAD);
        due("sheet", x.tried(4, 0, 0, 1), BAD);
        due("sheet", x.tried(-1, 0, 0, 1), BAD);
        due("lane", x.tried(0, 4, 0, 1), BAD);
        due("lane", x.tried(0, -1, 0, 1), BAD);
        due("other lane", x.tried(0, 1, 0, 1), CAST);
        due("CAST ahead of INDEX", x.tried(0, 1, -1, 1), CAST);
        due("index", x.tried(0, 0, -1, 1), INDEX);
        due("index", x.tried(0, 0, 5, 3), INDEX);
        due("index", x.tried(0, 0, Integer.MAX_VALUE, 24), INDEX);
        x.item(0, 0, 6, 4);
        due("no task, though it ends ahead", x.tried(0, 0, 0, 7), NOT);
        due("not asked", x.tried(0, 0, 0, 6), 5);
        x.item(0, 0, 6, -1);
        due("no task", x.tried(0, 0, 0, 7), NOT);

        GateTable y = ring(1);
        row(y, 1, 3, 1, 2);
        due("the victim itself is idle", y.tried(1, 3, 0, 2), 2);
        y.rule(3);
        due("another one: it waits yet", y.tried(1, 3, 0, 2), 0);
        y.rule(0);
        due("in a ring", y.tried(1, 3, 0, 2), 0);
        due("none fell", y.task(0, 5) + y.task(1, 5), 0);
        row(y, 2, 2, 2, 2);
        due("over behind the first", y.tried(2, 2, 0, 2), 1);
    }

    // 26
    private static void films() {
        GateTable x = with("a(a+1)", "b()", "c(c(c()))");
        due("nothing", x.film(0, 0, 0), NULL);
        row(x, 0, 1, 9, 9, 9, 9, 9, 9);
        x.turn(0);
        x.turn(2);
        x.turn(2);
        x.turn(2);
        due("sheet", x.film(4, 1, 0), BAD);
        due("sheet", x.film(-1, 1, 0), BAD);
        due("lane", x.film(0, 4, 0), BAD);
        due("lane", x.film(0, -1, 0), BAD);
        due("other lane", x.film(0, 2, 0), CAST);
        due("index", x.film(0, 1, -1), INDEX);
        due("index", x.film(0, 1, 3), INDEX);
        due("refused, so as it was", x.tried(0, 1, 3, 1), NOT);
        due("film", x.film(0, 1, 2), 4);
        due("9 ahead", x.tried(0, 1, 1, 1), NOT);
        // 1, 0, 3, 0: turns of tasks 1, 0, 3, 0
        due("as turns", x.tried(0, 1, 2, 4), 4);
        x.turn(2);
        due("film", x.film(0, 1, 2), 4);
        due("4 is no task", x.tried(0, 1, 4, 1), NOT);
        due("what follows", x.tried(0, 1, 5, 1), 1);
    }

    // 27
    private static void sheetsMade() {
        GateTable x = new GateTable();
        due("sheet -1", x.sheet(-1, 0, 1), BAD);
        due("sheet 4", x.sheet(4, 0, 1), BAD);
        due("lane -1", x.sheet(0, -1, 1), BAD);
        due("lane 4", x.sheet(0, 4, 1), BAD);
        due("n 25", x.sheet(0, 0, 25), BAD);
        due("n -1", x.sheet(0, 0, -1), SIZE);
        due("BAD ahead of SIZE", x.sheet(4, 0, -1), BAD);
        due("nothing yet", x.drop(0), NULL);
        due("n 24", x.sheet(3, 3, 24), 24);
        due("n 0", x.sheet(0, 0, 0), 0);
        row(x, 1, 0, 3, 3);
        due("refused", x.sheet(1, 1, 25), BAD);
        due("the row stays", x.tried(1, 0, 0, 2), 1);
        due("a new row", x.sheet(1, 0, 2), 2);
        due("of zeros: task 0 ends at once", x.tried(1, 0, 0, 1), 1);
        row(x, 1, 0, 7, 7);
        due("a new row", x.sheet(1, 2, 1), 1);
        due("of another lane", x.tried(1, 0, 0, 1), CAST);
        due("of zeros", x.tried(1, 2, 0, 1), 1);
    }

    // 28
    private static void drops() {
        GateTable x = new GateTable();
        due("drop -1", x.drop(-1), BAD);
        due("drop 4", x.drop(4), BAD);
        due("drop nothing", x.drop(0), NULL);
        x.sheet(0, 0, 0);
        due("drop none", x.drop(0), 0);
        x.sheet(0, 0, 24);
        due("drop", x.drop(0), 24);
        due("nothing", x.drop(0), NULL);
        due("nothing", x.item(0, 0, 0, 0), NULL);
    }

    // 29
    private static void items() {
        GateTable x = new GateTable();
        due("nothing", x.item(0, 0, 0, 1), NULL);
        x.sheet(0, 0, 2);
        due("sheet", x.item(4, 0, 0, 1), BAD);
        due("sheet", x.item(-1, 0, 0, 1), BAD);
        due("lane", x.item(0, 4, 0, 1), BAD);
        due("lane", x.item(0, -1, 0, 1), BAD);
        due("other lane", x.item(0, 3, 9, 1), CAST);
        due("index", x.item(0, 0, -1, 1), INDEX);
        due("index", x.item(0, 0, 2, 1), INDEX);
        long[] high = {256L, 65536L, 4294967296L};
        for (int lane = 0; lane < 4; lane++) {
            x.sheet(0, lane, 1);
            if (lane < 3) {
                due("item", x.item(0, lane, 0, high[lane] + 3), 1);
                due("its lowest bits", x.tried(0, lane, 0, 1), 1);
                due("item", x.item(0, lane, 0, high[lane] - 1), 1);
                due("with its sign", x.tried(0, lane, 0, 1), NOT);
                due("item", x.item(0, lane, 0, high[lane] / 2), 1);
                due("with its sign", x.tried(0, lane, 0, 1), NOT);
            } else {
                due("item", x.item(0, lane, 0, 4294967296L), 1);
                due("all of a long", x.tried(0, lane, 0, 1), NOT);
                due("item", x.item(0, lane, 0, 2), 1);
                due("a task", x.tried(0, lane, 0, 1), 1);
            }
            if (lane == 1 || lane == 2) {
                x.item(0, lane, 0, 256);
                due("more than a byte", x.tried(0, lane, 0, 1), NOT);
            }
        }
    }

    private static String row(GateTable x, int sheet, int lane, int n) {
        StringBuilder text = new StringBuilder();
        for (int k = 0; k < n; k++) {
            text.append(x.tried(sheet, lane, k, 1) == NOT ? "n" : "y");
        }
        return text.toString();
    }

    private static void same(String what, String got, String want) {
        due(what + ": " + got + ", want " + want, got.equals(want) ? 1 : 0, 1);
    }

    // 30
    private static void copies() {
        GateTable x = new GateTable();
        due("nothing", x.copy(0, 0, 1, 0, 0), NULL);
        row(x, 0, 1, 9, 0, 0, 9, 9, 0);
        due("nothing", x.copy(0, 0, 1, 0, 0), NULL);
        due("nothing", x.copy(1, 0, 0, 0, 0), NULL);
        due("sheet", x.copy(4, 0, 0, 0, 0), BAD);
        due("sheet", x.copy(0, 0, 4, 0, 0), BAD);
        due("sheet", x.copy(-1, 0, 0, 0, 0), BAD);
        due("sheet", x.copy(0, 0, -1, 0, 0), BAD);
        x.sheet(1, 2, 4);
        due("other lane", x.copy(0, -1, 1, 0, -1), CAST);
        x.sheet(1, 1, 4);
        due("n -1", x.copy(0, 0, 1, 0, -1), INDEX);
        due("i -1", x.copy(0, -1, 1, 0, 0), INDEX);
        due("j -1", x.copy(0, 0, 1, -1, 0), INDEX);
        due("i 7", x.copy(0, 7, 1, 0, 0), INDEX);
        due("j 5", x.copy(0, 0, 1, 5, 0), INDEX);
        due("at the ends", x.copy(0, 6, 1, 4, 0), 0);
        due("too many", x.copy(0, 0, 1, 0, 5), INDEX);
        due("too many", x.copy(0, 3, 1, 0, 4), INDEX);
        due("far too many", x.copy(0, 1, 1, 1, Integer.MAX_VALUE), INDEX);
        due("far too far", x.copy(0, Integer.MAX_VALUE, 1, 0, 1), INDEX);
        same("refused", row(x, 1, 1, 4), "yyyy");
        due("copy", x.copy(0, 2, 1, 1, 3), 3);
        same("copied", row(x, 1, 1, 4), "yynn");
        due("forth in the same", x.copy(0, 0, 0, 1, 5), 5);
        same("as taken ahead", row(x, 0, 1, 6), "nnyynn");
        due("back in the same", x.copy(0, 2, 0, 0, 4), 4);
        same("as taken ahead", row(x, 0, 1, 6), "yynnnn");
    }
}
