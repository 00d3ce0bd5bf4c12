/** The edges of promises 1 to 7, and of what the terms say of gates, programs and traces. */
public final class ProgramEdges extends Edges {
    public static void main(String[] args) {
        newObject();
        typedLetters();
        fullTape();
        programsOfTasks();
        programsWhileBusy();
        programMakesIdle();
        tapeBehindProgram();
        lettersByPlace();
        programsBehindFaults();
        faultsAmongBlanks();
        openBrackets();
        stepsAtMost();
        staysAlone();
        addsAlone();
        breaksOutOfStays();
        breaksOutOfBodiesDoneOften();
        breaksToTries();
        breaksOutOfPrograms();
        gatesComeAndGo();
        gatesWhileBusy();
        gatesByWhichTracesAreFull();
        runsAlone();
        runsWhileBusy();
        aloneNumbers();
        aloneWhys();
        aloneCounts();
        stepNumbers();
        stepAnswers();
        end();
    }

    // ---- promise 1

    private static void newObject() {
        promise(1, "As told");
        GateTable x = new GateTable();
        for (int g = 0; g < 6; g++) {
            due("the cell of a new gate, 0 at first", x.gate(g, 0), 1000000);
            due("its holder", x.gate(g, 1), NONE);
            due("how many times", x.gate(g, 2), 0);
            due("whether it's gone", x.gate(g, 3), 0);
            due("who waits for it", x.gate(g, 4), 0);
        }
        for (int t = 0; t < 4; t++) {
            int[] task = {0, 0, 0, NONE, NONE, 0, 0};
            for (int what = 0; what < task.length; what++) {
                due("task(" + t + ", " + what + ")", x.task(t, what), task[what]);
            }
            int[] alone = {0, 0, NONE, 0, 0, 0};
            for (int what = 0; what < alone.length; what++) {
                due("alone(" + t + ", " + what + ") of no program", x.alone(t, what), alone[what]);
            }
            due("step 0 of no program", x.step(t, 0, 0), BAD);
        }
        for (int what = 0; what <= 8; what++) {
            due("count(" + what + ")", x.count(what), 0);
        }
        due("rule(0), 0 at first", x.rule(0), NOT);
        due("seed(1), 1 at first", x.seed(1), 1);
        due("lay() of a table as it is at first", x.lay(), NOT);
        due("undo()", x.undo(), NONE);
        due("restore()", x.restore(), NONE);
        for (int s = 0; s < 4; s++) {
            due("drop of a sheet that holds nothing at first", x.drop(s), NULL);
        }
        due("type of the first letter", x.type('!'), 1);
        due("type of a new object's, another one having a letter", new GateTable().type('!'), 1);
    }

    // ---- promise 2

    private static void typedLetters() {
        promise(2, "BAD: not 32 .. 126");
        GateTable x = new GateTable();
        for (int letter : new int[] {31, 127, 0, -1, 10, 128, 255, 256 + 'a', 65536 + 'a', 'a' - 256, LEAST, MOST}) {
            due("type(" + letter + ")", x.type(letter), BAD);
        }
        due("type(32), the first that is taken", x.type(32), 1);
        due("type(126)", x.type(126), 2);
        GateTable low = new GateTable();
        GateTable high = new GateTable();
        for (int letter = 32; letter <= 79; letter++) {
            due("type(" + letter + ")", low.type(letter), letter - 31);
        }
        for (int letter = 80; letter <= 126; letter++) {
            due("type(" + letter + ")", high.type(letter), letter - 79);
        }
    }

    private static void fullTape() {
        promise(2, "FULL: 60");
        GateTable x = new GateTable();
        for (int k = 1; k <= 29; k++) {
            type(x, "[]");
        }
        due("type of letter 59", x.type('a'), 59);
        due("type of letter 60", x.type('('), 60);
        due("type of letter 61", x.type(')'), FULL);
        due("type of a blank behind 60", x.type(' '), FULL);
        due("type of what is no letter behind 60", x.type(127), BAD);
        due("program: the end is behind 60 letters, none more was taken", x.program(0), -80);
        due("type of the first letter then", x.type('a'), 1);
        GateTable y = new GateTable();
        for (int k = 1; k <= 30; k++) {
            type(y, "[]");
        }
        due("program of 60 letters", y.program(0), 0);
        for (int k = 1; k <= 60; k++) {
            due("type of letter " + k + " of the next tape", y.type('!'), k);
        }
        due("type of letter 61 of the next tape", y.type('!'), FULL);
    }

    // ---- promise 3

    private static void programsOfTasks() {
        promise(3, "BAD");
        GateTable x = new GateTable();
        type(x, "f(f+9)");
        for (int t : outside(0, 3)) {
            due("program(" + t + ")", x.program(t), BAD);
        }
        due("program(0) of the tape that BAD leaves", x.program(0), 3);
        type(x, "f()");
        due("program(3)", x.program(3), 2);
        due("steps of task 0", x.alone(0, 0), 3);
        due("steps of task 1", x.alone(1, 0), 0);
        due("steps of task 3", x.alone(3, 0), 2);
        promise(3, "ITEMS one behind the other, perhaps none");
        due("program of an empty tape", x.program(3), 0);
        due("steps then", x.alone(3, 0), 0);
        due("program of blanks alone", tell(x, 0, "  "), 0);
        due("program of empty bodies", tell(x, 0, "[]2{}a()5{[]}"), 2);
    }

    private static void programsWhileBusy() {
        promise(3, "NOT: some TASK is GOING or WAITING");
        GateTable x = with("a(a+1)", "a()", "!");
        x.turn(2);
        due("program while one is BROKEN", tell(x, 3, "b()"), 2);
        x.turn(0);
        for (int t = 0; t < 4; t++) {
            due("program(" + t + ") while task 0 is GOING", tell(x, t, "b()"), NOT);
        }
        turns(x, 1, 0, 0);
        due("task 0", x.task(0, 0), 3);
        due("task 1", x.task(1, 0), 2);
        due("program while task 1 is WAITING, none GOING", tell(x, 0, "b()"), NOT);
        turns(x, 1, 1);
        due("program while all are ENDED, BROKEN or IDLE", tell(x, 0, "b()"), 2);
        due("program of 1 as it was", x.alone(1, 0), 2);

        GateTable y = with("a(b())", "b(a())");
        y.rule(4);
        turns(y, 0, 1, 0, 1);
        due("the victim", y.task(1, 0), 0);
        due("program of the victim while the other one is WAITING", tell(y, 1, "b()"), NOT);
        promise(0, "of several the first that a call names");
        due("program(4) while one is WAITING", tell(y, 4, ")"), BAD);
        due("program of a fault while one is WAITING", tell(y, 1, ")"), NOT);
        due("program of too many steps while one is WAITING", tell(y, 1, "5{5{a()a()}}"), NOT);
        turns(y, 0, 0, 0);
        due("program of a fault that would be too long, too", tell(y, 1, "5{5{a()a()}}("), -32);
    }

    private static void programMakesIdle() {
        promise(3, "which is IDLE then, no STEP done (how often it has FALLEN, how many have begun, CELLS stay)");
        GateTable x = with("a(a+2 b(b-3))", "b(a())", "[c(!)]!", "d()");
        x.rule(4);
        turns(x, 0, 0, 1, 0);
        due("the victim", x.turn(1), 11);
        turns(x, 0, 0, 0, 0);
        turns(x, 2, 2, 3, 3);
        due("ended, broken, idle", x.count(3) * 100 + x.count(4), 904);
        due("program of one ENDED", tell(x, 0, "e()"), 2);
        due("it is IDLE", x.task(0, 0), 0);
        due("no step done", x.task(0, 1), 0);
        due("its age", x.task(0, 4), NONE);
        due("program of one BROKEN", tell(x, 2, "e()"), 2);
        due("it is IDLE", x.task(2, 0), 0);
        due("no step done", x.task(2, 1), 0);
        due("program of one that has FALLEN", tell(x, 1, "e()"), 2);
        due("how often it has FALLEN", x.task(1, 5), 1);
        due("how many have begun", x.count(7), 4);
        due("cell of a", x.gate(0, 0), 1000002);
        due("cell of b", x.gate(1, 0), 999997);
        due("another one stays ENDED", x.task(3, 0), 3);
        due("its steps", x.task(3, 1), 2);
        due("its age", x.task(3, 4), 3);
        due("a turn of the one told", x.turn(0), 0);
        due("its age", x.task(0, 4), 4);
    }

    private static void tapeBehindProgram() {
        promise(3, "THE TAPE, which is empty then (but by BAD)");
        GateTable x = with("a()");
        due("type behind a program", x.type('a'), 1);
        due("program of a fault", x.program(0), -21);
        due("type behind a fault", x.type('!'), 1);
        due("the program as it was", x.alone(0, 0), 2);
        x.program(1);
        due("program of too many steps", tell(x, 0, "5{5{a()}}"), FULL);
        due("type behind FULL", x.type('!'), 1);
        due("the program as it was", x.alone(0, 0), 2);
        x.program(1);
        x.turn(0);
        due("program while one is GOING", tell(x, 0, "!"), NOT);
        due("type behind NOT", x.type('!'), 1);
        due("program BAD", x.program(-1), BAD);
        due("type behind BAD", x.type('!'), 2);
    }

    /** Each letter behind a text: those of good may stand there, those of last even end the program. */
    private static void allLetters(String ahead, String good, String last) {
        for (char letter = 33; letter <= 126; letter++) {
            int answer = tell(new GateTable(), 0, ahead + letter);
            String call = "program of " + ahead + letter;
            if (last.indexOf(letter) >= 0) {
                due("whether there is a fault in the " + call, answer <= -20 ? 1 : 0, 0);
            } else {
                due(call, answer, -20 - ahead.length() - (good.indexOf(letter) >= 0 ? 1 : 0));
            }
        }
    }

    private static void lettersByPlace() {
        promise(3, "a FAULT: the first letter that can't stand there");
        String first = "abcdef2345[";
        allLetters("", first, "!");
        allLetters("a()", first, "!");
        allLetters("a+1", first, "!");
        allLetters("!", first, "!");
        allLetters("a", "(+-", "");
        allLetters("f", "(+-", "");
        allLetters("a+", "", "123456789");
        allLetters("f-", "", "123456789");
        allLetters("2", "{", "");
        allLetters("5", "{", "");
        allLetters("a(", first + "!", ")");
        allLetters("[", first + "!", "]");
        allLetters("2{", first + "!", "}");
        allLetters("[a(", first + "!)", "");
        allLetters("a([", first + "!]", "");
        allLetters("2{[]", first + "!", "}");
        due("the end where more is due", tell(new GateTable(), 0, "[2{a("), -25);
    }

    private static void programsBehindFaults() {
        promise(3, "a FAULT; what is refused changes nothing");
        GateTable x = new GateTable();
        due("a fault with a bracket open", tell(x, 0, "a([2{"), -25);
        due("a program then, which closes none of that", tell(x, 0, "a()"), 2);
        due("a fault with six brackets open", tell(x, 0, "[[[[[["), -26);
        due("six open then", tell(x, 0, "[[[[[[]]]]]]"), 0);
        due("a fault behind a sign", tell(x, 0, "a(a+"), -24);
        due("a figure at first then", tell(x, 0, "1"), -20);
        due("a fault behind a letter", tell(x, 0, "a"), -21);
        due("a bracket at first then", tell(x, 0, "("), -20);
        due("a fault behind a figure", tell(x, 0, "2"), -21);
        due("a bracket at first then", tell(x, 0, "{"), -20);
        due("the program that was told last", x.alone(0, 0), 0);
        due("what may be undone: two programs", x.count(8), 2);
    }

    private static void faultsAmongBlanks() {
        promise(3, "behind blanks, which count for nothing (the end: how many letters there are)");
        due("a letter behind blanks", tell(new GateTable(), 0, "  )"), -22);
        due("a letter between blanks", tell(new GateTable(), 0, " a + 0 "), -25);
        due("the end", tell(new GateTable(), 0, "a"), -21);
        due("the end behind blanks", tell(new GateTable(), 0, "a  "), -23);
        due("the end behind an open bracket", tell(new GateTable(), 0, " [ "), -23);
        due("blanks inside of items", tell(new GateTable(), 0, " a ( a + 9 2 { a - 9 } ) "), 5);
        due("a figure behind a figure and a blank", tell(new GateTable(), 0, "a(a+1 2)"), -27);
        for (String blanks : new String[] {"[a+1]", " [a+1]", "[a+1] ", " [ a + 1 ] "}) {
            GateTable x = with(blanks);
            due("why '" + blanks + "' is BROKEN", x.alone(0, 1), 0);
            due("the gate", x.alone(0, 2), NONE);
            due("MENDED", x.alone(0, 3), 1);
            due("its turn", x.turn(0), 2);
        }
        StringBuilder far = new StringBuilder();
        for (int k = 0; k < 59; k++) {
            far.append(' ');
        }
        due("a fault at the last of 60 letters", tell(new GateTable(), 0, far + "+"), -79);
        due("the end behind 60 letters", tell(new GateTable(), 0, far + "a"), -80);
        due("the last of 60 letters", tell(new GateTable(), 0, far + "!"), 0);
    }

    private static void openBrackets() {
        promise(3, "No more than 6 of ( [ { are open at once");
        due("six stays", tell(new GateTable(), 0, "a(b(c(d(e(f()))))) "), 12);
        due("six tries", tell(new GateTable(), 0, "[[[[[[]]]]]]"), 0);
        due("six bodies done often", tell(new GateTable(), 0, "2{2{2{2{2{2{}}}}}}"), 0);
        due("six of all kinds", tell(new GateTable(), 0, "a([2{b([2{}])}])"), 6);
        due("six and six, not at once", tell(new GateTable(), 0, "a([2{b([2{}])}])[[[[[[]]]]]]"), 6);
        due("a seventh stay", tell(new GateTable(), 0, "a(b(c(d(e(f(a()))))))"), -33);
        due("a seventh try", tell(new GateTable(), 0, "[[[[[[[]]]]]]]"), -26);
        due("a seventh body done often", tell(new GateTable(), 0, "2{2{2{2{2{2{2{}}}}}}}"), -33);
        due("a sixth again behind one closed", tell(new GateTable(), 0, "[[[[[[][]]]]]]"), 0);
        due("a seventh behind one closed", tell(new GateTable(), 0, "[[[[[[][[]]]]]]]"), -28);
        allLetters("[[[[[[", "abcdef2345!]", "");
        allLetters("[[[[[[a", "+-", "");
        allLetters("[[[[[[2", "", "");
        due("adds inside of six", tell(new GateTable(), 0, "a(b(c(d(e(f(f+1a-9))))))"), 14);
        due("breaks inside of six", tell(new GateTable(), 0, "a(b(c(d(e(f(!))))))"), 12);
    }

    private static void stepsAtMost() {
        promise(3, "A TRACE has 30 STEPS at most; a PROGRAM told is refused: FULL");
        due("none, though 625 adds stand there", tell(new GateTable(), 0, "5{5{5{5{a+1}}}}"), 0);
        due("30 by stays", tell(new GateTable(), 0, "5{3{a()}}"), 30);
        due("32 by stays", tell(new GateTable(), 0, "4{4{a()}}"), FULL);
        due("30 by adds", tell(new GateTable(), 0, "a(4{5{a+1}}4{2{a+1}})"), 30);
        due("31 by an add more", tell(new GateTable(), 0, "a(4{5{a+1}}3{3{a+1}})"), FULL);
        due("30, broken behind them", tell(new GateTable(), 0, "5{3{a()}}!"), 30);
        due("30, then what does no step", tell(new GateTable(), 0, "5{3{a()}}[!]2{}[a+1]"), 30);
        due("30, then a stay", tell(new GateTable(), 0, "5{3{a()}}b()"), FULL);
        due("30 with what is taken back out of a stay", tell(new GateTable(), 0, "a(2{5{a+1}}4{a+1}!)"), 30);
        due("32 with what is taken back out of a stay", tell(new GateTable(), 0, "a(3{5{a+1}}!)"), FULL);
        due("30 with what is taken back to a try", tell(new GateTable(), 0, "a([2{5{a+1}}4{a+1}!])"), 30);
        due("31 with an add behind the try", tell(new GateTable(), 0, "a([2{5{a+1}}4{a+1}!]a+1)"), FULL);
        due("31 in a try: no try mends that", tell(new GateTable(), 0, "[5{3{a()}}b()]"), FULL);
        due("3125 stays", tell(new GateTable(), 0, "5{5{5{5{5{a()}}}}}"), FULL);
        due("3125 adds", tell(new GateTable(), 0, "a(5{5{5{5{5{a+1}}}}})"), FULL);
        due("625 adds in a try", tell(new GateTable(), 0, "a([5{5{5{5{a+1}}}}!])"), FULL);
        due("625 adds, each taken back", tell(new GateTable(), 0, "a(5{5{5{5{[a+1!]}}}})"), FULL);
        due("625 stays mended", tell(new GateTable(), 0, "5{5{5{5{[a(!)]}}}}"), FULL);
        GateTable x = with("a()");
        x.gone(5);
        due("30, the rest being behind a gate that is gone", tell(x, 0, "5{3{a()}}f(a())"), 30);
        due("a broken one", x.alone(0, 1), 3);
    }

    // ---- what a task does alone

    private static void traced(String program, String want) {
        same("the trace of " + program, trace(with(program), 0), want);
    }

    private static void staysAlone() {
        promise(7, "a STAY in a GATE: STEP ENTER, then the BODY, then STEP LEAVE");
        traced("a()", "a(a)");
        traced("f(e())", "f(e(e)f)");
        traced("a()a()", "a(a)a(a)");
        promise(7, "The same GATE may be entered again, in a STAY in it");
        traced("a(a(a+1)a+2)", "a(a(a+1a)a+2a)");
        traced("b(a(b(b-1)))", "b(a(b(b-1b)a)b)");
        promise(7, "If the GATE is GONE, it BREAKS by that (why 3), no STEP being done");
        GateTable x = with("a()b(c())d()", "[b()]d()", "b(b+1)");
        x.gone(1);
        same("the trace to the gate", trace(x, 0), "a(a)");
        due("why", x.alone(0, 1), 3);
        same("the trace behind a try", trace(x, 1), "d(d)");
        due("why of one that mended it", x.alone(1, 1), 0);
        same("the trace of none", trace(x, 2), "");
        due("its gate", x.alone(2, 2), 1);
    }

    private static void addsAlone() {
        promise(7, "To ADD is a STEP ADD, if the TASK is in a STAY in that GATE; else it BREAKS (why 1)");
        traced("a(a+1)", "a(a+1a)");
        traced("a(b(a-9))", "a(b(a-9b)a)");
        traced("a(a()a+1)", "a(a(a)a+1a)");
        traced("a()a+1", "a(a)");
        traced("a(b()b+1)", "a(b(b)a)");
        traced("a(b+1)", "a(a)");
        GateTable x = with("a(b+1)", "b+1");
        due("why, the gate being there", x.alone(0, 1), 1);
        x.gone(1);
        due("why, the gate being gone", x.alone(0, 1), 1);
        due("its gate", x.alone(0, 2), 1);
        due("why ahead of all", x.alone(1, 1), 1);
    }

    private static void breaksOutOfStays() {
        promise(7, "out of a STAY: all ADDED from its ENTER on, but what is SEALED, is taken back, the latest first");
        traced("a(!)", "a(a)");
        traced("a(a+1!)", "a(a+1a-1a)");
        traced("a(a+1a-2a+9!)", "a(a+1a-2a+9a-9a+2a-1a)");
        traced("a(a+1b(a+2b+3!))", "a(a+1b(a+2b+3b-3a-2b)a-1a)");
        traced("a(a+1b(a+2b+3)!)", "a(a+1b(a+2b+3b)a-1a)");
        traced("a(b(c(a+1)b+2)a+3!)", "a(b(c(a+1c)b+2b)a+3a-3a)");
        traced("a(a(a+1)!)", "a(a(a+1a)a)");
        traced("a(a(a+1!))", "a(a(a+1a-1a)a)");
        traced("a(a+1b()!)", "a(a+1b(b)a-1a)");
    }

    private static void breaksOutOfBodiesDoneOften() {
        promise(7, "Out of a BODY done often: it is not done again");
        traced("2{a()!}", "a(a)");
        traced("5{a(!)}", "a(a)");
        traced("a(5{a+1!})", "a(a+1a-1a)");
        traced("[5{a()!}]b()", "a(a)b(b)");
        traced("2{[3{a()!}]}", "a(a)a(a)");
        promise(7, "a figure 2 .. 5, { , a BODY, } : the BODY so often");
        traced("2{a()}", "a(a)a(a)");
        traced("a(5{a+1})", "a(a+1a+1a+1a+1a+1a)");
        traced("2{3{a()}b()}", "a(a)a(a)a(a)b(b)a(a)a(a)a(a)b(b)");
        traced("2{}a()", "a(a)");
    }

    private static void breaksToTries() {
        promise(7, "To a TRY: all ADDED from its beginning on, but what is SEALED, is taken back likewise");
        traced("a([a+1a+2!a+3]a+4)", "a(a+1a+2a-2a-1a+4a)");
        traced("a(a+9[a+1!])", "a(a+9a+1a-1a)");
        traced("a(a+9[a+1!]!)", "a(a+9a+1a-1a-9a)");
        traced("a([b(a+1)a+2!])", "a(b(a+1b)a+2a-2a)");
        traced("a([b(a+1!)])", "a(b(a+1a-1b)a)");
        traced("a(a+5[b(!)])", "a(a+5b(b)a)");
        traced("a([a+1]!)", "a(a+1a-1a)");
        traced("a([a+1[a+2!]a+3!]a+4)", "a(a+1a+2a-2a+3a-3a-1a+4a)");
        traced("a([!]a+1)", "a(a+1a)");
        traced("[a+1]a()", "a(a)");
        traced("[]a()", "a(a)");
    }

    private static void breaksOutOfPrograms() {
        promise(7, "Out of the PROGRAM: the TASK is BROKEN");
        traced("a()!b()", "a(a)");
        GateTable x = with("!", "a()!b()", "[!]", "a(!)b()");
        due("a turn of one that breaks at once", x.turn(0), 3);
        x.turn(1);
        due("the last turn of one that breaks", x.turn(1), 3);
        due("a turn of one that mends", x.turn(2), 2);
        x.turn(3);
        due("the last turn out of a stay", x.turn(3), 3);
    }

    // ---- promise 4

    private static void gatesComeAndGo() {
        promise(4, "BAD");
        GateTable x = with("a(a+1)", "[f(f+1)]", "b(a())", "!");
        for (int g : outside(0, 5)) {
            due("gone(" + g + ")", x.gone(g), BAD);
        }
        promise(4, "A GATE is GONE (1), if it was there, or there (0): so it is then");
        for (int g = 0; g < 6; g++) {
            due("gone(" + g + ")", x.gone(g), 1);
            due("whether it is", x.gate(g, 3), 1);
            due("all that are", x.count(6), (2 << g) - 1);
        }
        due("steps where all are gone", x.alone(0, 0) + x.alone(1, 0) + x.alone(2, 0), 0);
        for (int g = 5; g >= 0; g--) {
            due("gone(" + g + ") again", x.gone(g), 0);
            due("whether it is", x.gate(g, 3), 0);
            due("all that are", x.count(6), (1 << g) - 1);
        }
        due("steps where all are there", x.alone(0, 0) + x.alone(1, 0) + x.alone(2, 0), 10);
        promise(4, "all TASKS are IDLE then, no STEP done (FALLEN, begun, CELLS stay)");
        x.rule(4);
        turns(x, 0, 2);
        due("task 2 waits", x.turn(2), 1);
        turns(x, 0, 0, 2, 2, 2, 3, 1);
        due("task 1 is the one that goes on", x.count(1), 2);
        turns(x, 1, 1);
        due("ended", x.count(3), 7);
        due("broken", x.count(4), 8);
        due("gone(4), which none enters", x.gone(4), 1);
        due("ended and broken then", x.count(3) + x.count(4), 0);
        for (int t = 0; t < 4; t++) {
            due("what task " + t + " is", x.task(t, 0), 0);
            due("its steps done", x.task(t, 1), 0);
            due("its age", x.task(t, 4), NONE);
        }
        due("begun", x.count(7), 4);
        due("cell of a", x.gate(0, 0), 1000001);
        due("cell of f", x.gate(5, 0), 1000001);
        GateTable y = with("a(b())", "b(a())");
        y.rule(1);
        turns(y, 0, 1, 0, 1);
        turns(y, 0, 0, 0);
        due("gone(2)", y.gone(2), 1);
        due("FALLEN", y.task(1, 5), 1);
        due("the next one's age", y.turn(1) + y.task(1, 4), 2);
    }

    private static void gatesWhileBusy() {
        promise(4, "NOT: some TASK is GOING or WAITING");
        GateTable x = with("a()", "a()");
        x.turn(0);
        due("gone(5) while one is GOING", x.gone(5), NOT);
        due("gone(6) while one is GOING", x.gone(6), BAD);
        turns(x, 1, 0);
        due("gone(5) while one is WAITING, none GOING", x.gone(5), NOT);
        turns(x, 1, 1);
        due("gone(5) while all are ENDED or IDLE", x.gone(5), 1);
        x.turn(0);
        due("gone(5) while one is GOING", x.gone(5), NOT);
        due("still gone", x.gate(5, 3), 1);
    }

    private static void gatesByWhichTracesAreFull() {
        promise(4, "a GATE that comes or goes by which some TASK's would have more, is refused: FULL");
        for (int t = 0; t < 4; t++) {
            GateTable x = new GateTable();
            x.gone(5);
            due("28 steps without f", tell(x, t, "a(5{5{a+1}}a+1)[f()]"), 28);
            due("gone(5): 30 with f", x.gone(5), 0);
            due("steps", x.alone(t, 0), 30);
            GateTable y = new GateTable();
            y.gone(5);
            due("29 steps without f", tell(y, t, "a(5{5{a+1}}2{a+1})[f()]"), 29);
            due("gone(5): 31 with f", y.gone(5), FULL);
            due("steps", y.alone(t, 0), 29);
            due("still gone", y.gate(5, 3), 1);
            due("gone of another one", y.gone(4), 1);
        }
        for (int t = 0; t < 4; t++) {
            GateTable x = new GateTable();
            due("18 steps with f", tell(x, t, "a([2{5{a+1}}4{a+1}f()])"), 18);
            due("gone(5): 30 without f", x.gone(5), 1);
            due("steps", x.alone(t, 0), 30);
            GateTable y = new GateTable();
            due("19 steps with f", tell(y, t, "a([2{5{a+1}}4{a+1}f()]a+1)"), 19);
            due("gone(5): 31 without f", y.gone(5), FULL);
            due("steps", y.alone(t, 0), 19);
            due("still there", y.gate(5, 3), 0);
        }
        promise(4, "What is refused changes nothing");
        GateTable z = with("f(f+1)", "!", "", "a([2{5{a+1}}4{a+1}f()]a+1)");
        turns(z, 0, 0, 0, 1);
        due("gone(5), full by task 3", z.gone(5), FULL);
        due("a trace ahead of that task's", z.alone(0, 0), 3);
        due("ended", z.count(3), 1);
        due("broken", z.count(4), 2);
        promise(0, "of several the first that a call names");
        z.turn(3);
        due("gone(5), full by a task that goes", z.gone(5), NOT);
    }

    // ---- promise 5

    private static void runsAlone() {
        promise(5, "BAD");
        GateTable x = with("a(a+1b(b-9))", "a(b(a+2)a+3!)", "!", "");
        for (int t : outside(0, 3)) {
            due("run(" + t + ")", x.run(t), BAD);
        }
        promise(5, "CELLS change by its TRACE: how many STEPS");
        due("run(0)", x.run(0), 6);
        due("cell of a", x.gate(0, 0), 1000001);
        due("cell of b", x.gate(1, 0), 999991);
        due("run of a broken one: a( b( a+2 b) a+3 a-3 a)", x.run(1), 7);
        due("what was sealed stays", x.gate(0, 0), 1000003);
        due("run of one that breaks at once", x.run(2), 0);
        due("run of no program", x.run(3), 0);
        due("what may be undone", x.count(8), 6);
        due("none has begun", x.count(7), 0);
        due("no task is but IDLE", x.count(1) + x.count(2) + x.count(3) + x.count(4), 0);
        GateTable y = with("", "", "", "5{3{f()}}");
        due("run of 30 steps", y.run(3), 30);
        due("no gate is held", y.gate(5, 1), NONE);
    }

    private static void runsWhileBusy() {
        promise(5, "NOT: some TASK is GOING or WAITING");
        GateTable x = with("a(a+1)", "a()", "!");
        turns(x, 2, 0);
        due("run of another one while one is GOING", x.run(2), NOT);
        due("run of the one that is GOING", x.run(0), NOT);
        due("run(4) while one is GOING", x.run(4), BAD);
        turns(x, 1, 0, 0);
        due("run while one is WAITING, none GOING", x.run(0), NOT);
        turns(x, 1, 1);
        due("run while all are ENDED, BROKEN or IDLE", x.run(0), 3);
        due("cell", x.gate(0, 0), 1000002);
        due("an ended one stays so", x.task(0, 0), 3);
        due("its steps", x.task(0, 1), 3);
        due("a broken one stays so", x.run(2) + x.task(2, 0), 4);
    }

    // ---- promise 6

    private static void aloneNumbers() {
        promise(6, "BAD");
        GateTable x = with("a()", "", "", "f()");
        for (int t : outside(0, 3)) {
            due("alone(" + t + ", 0)", x.alone(t, 0), BAD);
        }
        for (int what : outside(0, 5)) {
            due("alone(0, " + what + ")", x.alone(0, what), BAD);
        }
        due("alone(0, 0)", x.alone(0, 0), 2);
        due("alone(3, 5)", x.alone(3, 5), 1);
    }

    private static void whyIs(String program, int why, int gate) {
        GateTable x = with(program);
        due("why " + program + " is BROKEN", x.alone(0, 1), why);
        due("the gate by which " + program + " BREAKS", x.alone(0, 2), gate);
    }

    private static void aloneWhys() {
        promise(6, "1 why it's BROKEN (0: it is not), 2 the GATE by which it BREAKS so (NONE: it doesn't, or by !)");
        whyIs("", 0, NONE);
        whyIs("!", 2, NONE);
        whyIs("a+1", 1, 0);
        whyIs("f-1", 1, 5);
        whyIs("[a+1]", 0, NONE);
        whyIs("[!]", 0, NONE);
        whyIs("[a+1]!", 2, NONE);
        whyIs("[!]b+1", 1, 1);
        whyIs("a(b(c+1))", 1, 2);
        whyIs("2{c(!)}", 2, NONE);
        GateTable x = new GateTable();
        x.gone(0);
        x.gone(5);
        int[] steps = {0, 0, 2, 2};
        String[] programs = {"a()", "[f()]a(!)", "b(f())", "[a()]b(!)"};
        int[] whys = {3, 3, 3, 2};
        int[] gates = {0, 0, 5, NONE};
        for (int t = 0; t < 4; t++) {
            due("program " + programs[t], tell(x, t, programs[t]), steps[t]);
            due("why", x.alone(t, 1), whys[t]);
            due("the gate", x.alone(t, 2), gates[t]);
        }
    }

    private static void counted(String program, int mended, int again, int stays) {
        GateTable x = with(program);
        due("MENDED in " + program, x.alone(0, 3), mended);
        due("entered again in " + program, x.alone(0, 4), again);
        due("STAYS at once in " + program, x.alone(0, 5), stays);
    }

    private static void aloneCounts() {
        promise(6, "3 what was MENDED, how often");
        counted("[]", 0, 0, 0);
        counted("!", 0, 0, 0);
        counted("[!]", 1, 0, 0);
        counted("[!]!", 1, 0, 0);
        counted("[[!]]", 1, 0, 0);
        counted("[[!]!]", 2, 0, 0);
        counted("2{[!]}", 2, 0, 0);
        counted("5{[!]}!", 5, 0, 0);
        counted("[!]2{[!]}", 3, 0, 0);
        counted("[!][!]5{[!]3{[!]}}[!]", 23, 0, 0);
        counted("3{[a()!][!]}", 6, 0, 1);
        counted("5{5{5{5{5{[!]}}}}}", 3125, 0, 0);
        counted("2{[!]!}", 1, 0, 0);
        promise(6, "4 how often a GATE was entered again, in a STAY in it");
        counted("a()a()", 0, 0, 1);
        counted("a(a())", 0, 1, 2);
        counted("a(b(a()))", 0, 1, 3);
        counted("a(a()a())", 0, 2, 2);
        counted("a(a(a()))", 0, 2, 3);
        counted("a(3{a()})", 0, 3, 2);
        counted("a(b())b(a())", 0, 0, 2);
        counted("[a(a(!))]", 1, 1, 2);
        promise(6, "5 in how many STAYS it was at most at once");
        counted("a+1", 0, 0, 0);
        counted("f()", 0, 0, 1);
        counted("a()b(c())d()", 0, 0, 2);
        counted("a(b(c(d(e(f())))))", 0, 0, 6);
        counted("a(a(a(a(a(a())))))", 0, 5, 6);
        GateTable x = with("a(b(c()))");
        x.gone(2);
        due("STAYS at once, the third gate being gone", x.alone(0, 5), 2);
        promise(6, "of the PROGRAM told last, by GATES as they are");
        String[] programs = {"a(a(a()))[!][!]", "b(b())[c()]", "", "[[!]!]!"};
        int[][] want = {{2, 2, 3}, {0, 1, 2}, {0, 0, 0}, {2, 0, 0}};
        GateTable y = new GateTable();
        for (int k = 0; k < programs.length; k++) {
            tell(y, 0, programs[k]);
            for (int what = 3; what <= 5; what++) {
                due("alone(0, " + what + ") of " + programs[k], y.alone(0, what), want[k][what - 3]);
            }
        }
        tell(y, 0, programs[0]);
        tell(y, 1, programs[1]);
        tell(y, 3, programs[3]);
        int[][] then = {{2, 2, 3}, {1, 1, 2}, {0, 0, 0}, {2, 0, 0}};
        y.gone(2);
        for (int t = 0; t < 4; t++) {
            for (int what = 3; what <= 5; what++) {
                due("alone(" + t + ", " + what + "), c being gone", y.alone(t, what), then[t][what - 3]);
            }
        }
    }

    // ---- promise 7

    private static void stepNumbers() {
        promise(7, "BAD");
        GateTable x = with("a(a+9)", "", "5{3{a()}}");
        for (int t : outside(0, 3)) {
            due("step(" + t + ", 0, 0)", x.step(t, 0, 0), BAD);
        }
        for (int k : outside(0, 2)) {
            due("step(0, " + k + ", 0)", x.step(0, k, 0), BAD);
        }
        for (int what : outside(0, 2)) {
            due("step(0, 0, " + what + ")", x.step(0, 0, what), BAD);
        }
        due("step 0 of a trace without steps", x.step(1, 0, 0), BAD);
        due("step 29 of 30", x.step(2, 29, 0), 1);
        due("step 30 of 30", x.step(2, 30, 0), BAD);
    }

    private static void stepAnswers() {
        promise(7, "0 its kind: 0 ENTER, 1 LEAVE, 2 ADD; 1 its GATE; 2 what it ADDS, and 10 together (10 of others)");
        GateTable x = with("f(f+9f-9a(f+1)!)");
        int[][] steps = {{0, 5, 10}, {2, 5, 19}, {2, 5, 1}, {0, 0, 10}, {2, 5, 11}, {1, 0, 10}, {2, 5, 19}, {2, 5, 1}, {1, 5, 10}};
        due("steps", x.alone(0, 0), steps.length);
        for (int k = 0; k < steps.length; k++) {
            for (int what = 0; what < 3; what++) {
                due("step(0, " + k + ", " + what + ")", x.step(0, k, what), steps[k][what]);
            }
        }
    }
}
