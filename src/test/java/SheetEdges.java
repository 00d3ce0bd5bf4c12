/** The edges of promises 25 to 30, and of what the terms say of sheets, lanes and rows tried. */
public final class SheetEdges extends Edges {
    private static final int[] SIZES = {0, 1, 23, 24};

    public static void main(String[] args) {
        triedNumbers();
        triedPlaces();
        triedItems();
        triedToTheEnd();
        triedWaiting();
        triedVictims();
        triedFromTheTableAsItIs();
        filmNumbers();
        filmPlaces();
        filmSteps();
        sheetNumbers();
        sheetsAnew();
        drops();
        itemNumbers();
        itemPlaces();
        itemsCut();
        copyNumbers();
        copyMissing();
        copyPlaces();
        copyOfNone();
        copiesAsTakenAhead();
        copiesBetween();
        end();
    }

    // ---- promise 25

    private static void triedNumbers() {
        promise(25, "BAD");
        GateTable x = new GateTable();
        row(x, 0, 0, 0, 1);
        row(x, 3, 3, 0, 1);
        for (int s : outside(0, 3)) {
            due("tried of sheet " + s, x.tried(s, 0, 0, 1), BAD);
        }
        for (int lane : outside(0, 3)) {
            due("tried as lane " + lane, x.tried(0, lane, 0, 1), BAD);
        }
        promise(25, "n TASKS (1 .. 24)");
        for (int n : outside(1, 24)) {
            due("tried of " + n, x.tried(0, 0, 0, n), BAD);
            due("tried of " + n + " of a sheet that holds nothing", x.tried(1, 0, 0, n), BAD);
        }
        due("tried of 1", x.tried(0, 0, 0, 1), 1);
        due("tried of 24, more than there are", x.tried(0, 0, 0, 24), INDEX);
        due("tried of sheet 3 as lane 3", x.tried(3, 3, 0, 2), 2);
        promise(25, "NULL; CAST; INDEX");
        due("tried of a sheet that holds nothing", x.tried(1, 0, 0, 1), NULL);
        due("tried of nothing, at no place", x.tried(1, 3, -1, 1), NULL);
        for (int lane = 1; lane < 4; lane++) {
            due("tried of bytes as lane " + lane, x.tried(0, lane, 0, 1), CAST);
            due("tried of bytes as lane " + lane + " at no place", x.tried(0, lane, 9, 1), CAST);
            due("tried of longs as lane " + (lane - 1), x.tried(3, lane - 1, 0, 1), CAST);
        }
    }

    private static void triedPlaces() {
        promise(25, "INDEX");
        GateTable x = new GateTable();
        row(x, 0, 2, 0, 1, 2, 3);
        for (int i : new int[] {-1, 4, 5, LEAST, MOST}) {
            due("tried of 1 from " + i, x.tried(0, 2, i, 1), INDEX);
            due("tried of 24 from " + i, x.tried(0, 2, i, 24), INDEX);
        }
        for (int i = 0; i < 4; i++) {
            due("tried to the last from " + i, x.tried(0, 2, i, 4 - i), 4 - i);
            due("tried behind the last from " + i, x.tried(0, 2, i, 5 - i), INDEX);
        }
        due("tried of 3 from -1", x.tried(0, 2, -1, 3), INDEX);
        x.sheet(1, 2, 0);
        due("tried of a sheet without items", x.tried(1, 2, 0, 1), INDEX);
        x.item(0, 2, 0, 4);
        promise(0, "of several the first that a call names");
        due("tried of what is no task, behind the last", x.tried(0, 2, 0, 5), INDEX);
    }

    private static void triedItems() {
        promise(25, "NOT: an item is no TASK");
        for (int lane = 0; lane < 4; lane++) {
            GateTable x = new GateTable();
            row(x, 0, lane, 0, 3, 4, -1, 127, -128);
            due("tried of tasks 0 and 3", x.tried(0, lane, 0, 2), 2);
            for (int k = 2; k < 6; k++) {
                due("tried of what is no task, item " + k, x.tried(0, lane, k, 1), NOT);
            }
            due("tried of what is no task at last", x.tried(0, lane, 0, 3), NOT);
            due("tried of what is no task at first", x.tried(0, lane, 3, 3), NOT);
            x.turn(0);
            due("tried of one ENDED, then what is no task", x.tried(0, lane, 0, 3), NOT);
            due("tried of one ENDED", x.tried(0, lane, 0, 2), 0);
        }
    }

    private static void triedToTheEnd() {
        promise(25, "(one that is ENDED or BROKEN has none: there it ends)");
        GateTable x = with("a(a+1)", "!", "", "b(!)");
        row(x, 0, 0, 0, 0, 0, 0, 2, 1, 3);
        due("tried to one ENDED by its third turn", x.tried(0, 0, 0, 7), 3);
        row(x, 1, 0, 3, 3, 3, 2);
        due("tried to one BROKEN by its second turn", x.tried(1, 0, 0, 4), 2);
        row(x, 1, 0, 1, 1);
        due("tried of one BROKEN by its first turn", x.tried(1, 0, 0, 1), 1);
        due("tried of it again", x.tried(1, 0, 0, 2), 1);
        x.turn(1);
        due("tried of one BROKEN", x.tried(1, 0, 0, 2), 0);
        promise(25, "n TASKS (1 .. 24)");
        String[] programs = {"2{5{c()}}c(c+1)", "2{5{c()}}2{c()}", "2{5{c()}}c(c+1)c()"};
        int[] turns = {23, 24, 24};
        for (int k = 0; k < programs.length; k++) {
            GateTable y = with(programs[k]);
            y.sheet(0, 3, 24);
            due("tried 24 times of " + programs[k], y.tried(0, 3, 0, 24), turns[k]);
            due("tried 23 times of " + programs[k], y.tried(0, 3, 1, 23), 23);
        }
    }

    private static void triedWaiting() {
        promise(25, "how many of them, from the first on, would have a TURN without being WAITING behind it");
        GateTable x = with("a(a+1)", "a()", "b()");
        row(x, 0, 1, 0, 2, 1, 2, 0);
        due("tried to one that waits", x.tried(0, 1, 0, 5), 2);
        due("tried to just ahead of it", x.tried(0, 1, 0, 2), 2);
        row(x, 0, 1, 0, 0, 0, 1, 1);
        due("tried of two in the same gate, one behind the other", x.tried(0, 1, 0, 5), 5);
        row(x, 0, 1, 1, 0, 1, 0);
        due("tried to one that waits", x.tried(0, 1, 0, 4), 1);
        turns(x, 0, 1);
        row(x, 0, 1, 1, 2);
        due("tried of one that waits on", x.tried(0, 1, 0, 2), 0);
        row(x, 0, 1, 0, 0, 1, 1);
        due("tried of one that waited, the gate being free then", x.tried(0, 1, 0, 4), 4);
        due("the table as it was", x.task(1, 0), 2);
    }

    private static void triedVictims() {
        promise(25, "as the VICTIM itself it is IDLE, not WAITING; if another one is, it is WAITING yet");
        GateTable x = with("a(b())", "b(a())");
        row(x, 0, 0, 0, 1, 0);
        row(x, 1, 0, 1, 0);
        row(x, 2, 0, 1, 1);
        due("tried to one that waits, in no ring", x.tried(0, 0, 0, 3), 2);
        turns(x, 0, 1, 0);
        due("tried by RULE 0, in a ring", x.tried(1, 0, 0, 2), 0);
        x.rule(4);
        due("tried of the victim, then of the other one", x.tried(1, 0, 0, 2), 2);
        due("tried of the victim, then of it anew", x.tried(2, 0, 0, 2), 2);
        x.rule(2);
        due("tried where another one is the victim", x.tried(1, 0, 0, 2), 0);
        due("none has fallen", x.task(0, 5) + x.task(1, 5), 0);
        due("none is in a ring", x.count(5), 0);
        due("the turn itself", x.turn(1), 10);
        due("tried of the one that waits yet, then of the victim anew, which waits", x.tried(1, 0, 0, 2), 1);
    }

    private static void triedFromTheTableAsItIs() {
        promise(25, "from THE TABLE as it is");
        GateTable x = with("a(a+5)", "a()");
        row(x, 0, 0, 0, 0, 0, 0);
        due("tried from the beginning", x.tried(0, 0, 0, 4), 3);
        due("tried again", x.tried(0, 0, 0, 4), 3);
        x.turn(0);
        due("tried behind one turn", x.tried(0, 0, 0, 4), 2);
        due("the cell", x.gate(0, 0), 1000000);
        turns(x, 0, 0);
        due("tried of one ENDED", x.tried(0, 0, 0, 4), 0);
    }

    // ---- promise 26

    private static void filmNumbers() {
        promise(26, "BAD; NULL; CAST");
        GateTable x = new GateTable();
        x.sheet(0, 0, 4);
        x.sheet(3, 3, 4);
        for (int s : outside(0, 3)) {
            due("film to sheet " + s, x.film(s, 0, 0), BAD);
        }
        for (int lane : outside(0, 3)) {
            due("film as lane " + lane, x.film(0, lane, 0), BAD);
            due("film of nothing as lane " + lane, x.film(1, lane, 0), BAD);
        }
        due("film to a sheet that holds nothing", x.film(1, 0, -1), NULL);
        for (int lane = 1; lane < 4; lane++) {
            due("film to bytes as lane " + lane, x.film(0, lane, 9), CAST);
            due("film to longs as lane " + (lane - 1), x.film(3, lane - 1, 0), CAST);
        }
        due("film to bytes", x.film(0, 0, 0), 4);
        due("film to longs", x.film(3, 3, 0), 4);
    }

    private static void filmPlaces() {
        promise(26, "4 items; INDEX");
        GateTable x = new GateTable();
        x.sheet(0, 2, 24);
        due("film from 0", x.film(0, 2, 0), 4);
        due("film from 20 of 24", x.film(0, 2, 20), 4);
        for (int i : new int[] {-1, 21, 24, LEAST, MOST, MOST - 3}) {
            due("film from " + i + " of 24", x.film(0, 2, i), INDEX);
        }
        x.sheet(0, 2, 4);
        due("film from 0 of 4", x.film(0, 2, 0), 4);
        due("film from 1 of 4", x.film(0, 2, 1), INDEX);
        x.sheet(0, 2, 3);
        due("film from 0 of 3", x.film(0, 2, 0), INDEX);
        x.sheet(0, 2, 0);
        due("film from 0 of none", x.film(0, 2, 0), INDEX);
        row(x, 0, 1, 3, 2, 1, 0, 3);
        due("film from 2 of 5, refused", x.film(0, 1, 2), INDEX);
        same("the items as they were", items(x, 0, 1, 5), "32103");
    }

    private static void filmSteps() {
        promise(26, "STEPS done of TASKS 0 .. 3, 4 items, come to a SHEET");
        for (int lane = 0; lane < 4; lane++) {
            GateTable x = with("a(a+1)", "b()", "5{3{c()}}", "d(d+1d+1)");
            row(x, 0, lane, 3, 3, 3, 3, 3, 3);
            turns(x, 0, 0, 0, 1, 3, 3);
            due("film from 1 of 6", x.film(0, lane, 1), 4);
            due("known", x.count(8), 6);
            for (int k = 0; k < 30; k++) {
                x.turn(2);
            }
            row(x, 1, lane, 1, 1, 1, 1);
            due("film of one ENDED by 30 steps", x.film(1, lane, 0), 4);
            x.lay();
            for (int t = 0; t < 4; t++) {
                x.program(t);
            }
            same("the items: 3 ENDED, 1, none, 2", items(x, 0, lane, 6), "331023");
            same("the items: 30 is no task", items(x, 1, lane, 4), "31?2");
        }
        GateTable y = with("a(b())", "b(a())", "c(c+1)");
        y.rule(4);
        turns(y, 2, 2, 0, 1, 0, 1);
        y.sheet(0, 0, 4);
        y.film(0, 0, 0);
        y.lay();
        for (int t = 0; t < 4; t++) {
            y.program(t);
        }
        same("the items: 1 waiting, a victim, 2, none", items(y, 0, 0, 4), "1020");
    }

    // ---- promise 27

    private static void sheetNumbers() {
        promise(27, "BAD: also n above 24; SIZE: n below 0");
        GateTable x = new GateTable();
        for (int s : outside(0, 3)) {
            due("sheet " + s, x.sheet(s, 0, 1), BAD);
            due("sheet " + s + " of -1", x.sheet(s, 0, -1), BAD);
        }
        for (int lane : outside(0, 3)) {
            due("sheet of lane " + lane, x.sheet(0, lane, 1), BAD);
            due("sheet of lane " + lane + " of -1", x.sheet(0, lane, -1), BAD);
        }
        due("sheet of 25", x.sheet(0, 0, 25), BAD);
        due("sheet of the most", x.sheet(0, 0, MOST), BAD);
        due("sheet of -1", x.sheet(0, 0, -1), SIZE);
        due("sheet of the least", x.sheet(0, 0, LEAST), SIZE);
        due("nothing yet", x.drop(0), NULL);
        for (int s = 0; s < 4; s++) {
            for (int lane = 0; lane < 4; lane++) {
                for (int n : SIZES) {
                    due("sheet(" + s + ", " + lane + ", " + n + ")", x.sheet(s, lane, n), n);
                }
            }
        }
        for (int s = 0; s < 4; s++) {
            due("drop(" + s + ")", x.drop(s), 24);
        }
    }

    private static void sheetsAnew() {
        promise(27, "A SHEET holds a new row of a LANE");
        GateTable x = new GateTable();
        row(x, 0, 0, 3, 3, 3);
        due("sheet of 25, refused", x.sheet(0, 1, 25), BAD);
        due("sheet of -1, refused", x.sheet(0, 1, -1), SIZE);
        same("the row as it was", items(x, 0, 0, 3), "333");
        due("a new row of the same lane", x.sheet(0, 0, 4), 4);
        same("its items", items(x, 0, 0, 4), "0000");
        row(x, 0, 0, 3, 3, 3, 3);
        due("a shorter row", x.sheet(0, 3, 2), 2);
        due("its last item", x.item(0, 3, 1, 2), 1);
        due("behind its last item", x.item(0, 3, 2, 2), INDEX);
        due("the lane that was", x.item(0, 0, 0, 2), CAST);
        same("its items", items(x, 0, 3, 2), "02");
        row(x, 0, 3, 3, 3, 3);
        x.drop(0);
        x.sheet(0, 3, 3);
        same("the items of a row behind a drop", items(x, 0, 3, 3), "000");
    }

    // ---- promise 28

    private static void drops() {
        promise(28, "BAD; NULL");
        GateTable x = new GateTable();
        for (int s : outside(0, 3)) {
            due("drop(" + s + ")", x.drop(s), BAD);
        }
        for (int s = 0; s < 4; s++) {
            due("drop(" + s + ") of nothing", x.drop(s), NULL);
        }
        promise(28, "A SHEET holds nothing: how many items it had");
        for (int n : SIZES) {
            x.sheet(1, 2, n);
            x.sheet(2, 2, 5);
            due("drop of " + n, x.drop(1), n);
            due("drop again", x.drop(1), NULL);
            due("item of nothing", x.item(1, 2, 0, 0), NULL);
            due("tried of nothing", x.tried(1, 2, 0, 1), NULL);
            due("film to nothing", x.film(1, 2, 0), NULL);
            due("copy of nothing", x.copy(1, 0, 2, 0, 0), NULL);
            due("the sheet beside it", x.drop(2), 5);
        }
    }

    // ---- promise 29

    private static void itemNumbers() {
        promise(29, "BAD; NULL; CAST");
        GateTable x = new GateTable();
        x.sheet(0, 0, 2);
        x.sheet(3, 3, 2);
        for (int s : outside(0, 3)) {
            due("item of sheet " + s, x.item(s, 0, 0, 1), BAD);
        }
        for (int lane : outside(0, 3)) {
            due("item as lane " + lane, x.item(0, lane, 0, 1), BAD);
            due("item of nothing as lane " + lane, x.item(1, lane, 0, 1), BAD);
        }
        due("item of nothing", x.item(1, 0, -1, 1), NULL);
        for (int lane = 1; lane < 4; lane++) {
            due("item of bytes as lane " + lane, x.item(0, lane, 9, 1), CAST);
            due("item of longs as lane " + (lane - 1), x.item(3, lane - 1, 0, 1), CAST);
        }
        due("item of bytes", x.item(0, 0, 0, 1), 1);
        due("item of longs", x.item(3, 3, 0, 1), 1);
    }

    private static void itemPlaces() {
        promise(29, "INDEX");
        GateTable x = new GateTable();
        for (int n : SIZES) {
            x.sheet(0, 1, n);
            for (int i : new int[] {-1, n, n + 1, LEAST, MOST}) {
                due("item " + i + " of " + n, x.item(0, 1, i, 3), INDEX);
            }
            if (n > 0) {
                due("item 0 of " + n, x.item(0, 1, 0, 2), 1);
                due("the last item of " + n, x.item(0, 1, n - 1, 3), 1);
            }
        }
        row(x, 0, 2, 0, 1, 2);
        x.item(0, 2, 1, 3);
        x.item(0, 2, 3, 3);
        x.item(0, 2, -1, 3);
        same("the items", items(x, 0, 2, 3), "032");
    }

    private static void cut(int lane, long v, String want) {
        GateTable x = new GateTable();
        x.sheet(0, lane, 3);
        due("item of " + v, x.item(0, lane, 1, v), 1);
        same("item " + v + " in lane " + lane, items(x, 0, lane, 3), "0" + want + "0");
    }

    private static void itemsCut() {
        promise(29, "becomes v, its lowest bits (with its sign)");
        int[] bits = {8, 16, 32, 64};
        for (int lane = 0; lane < 4; lane++) {
            for (int v = 0; v < 4; v++) {
                cut(lane, v, "" + v);
            }
            cut(lane, 4, "?");
            cut(lane, -1, "?");
            cut(lane, Long.MAX_VALUE, "?");
            cut(lane, Long.MIN_VALUE, lane < 3 ? "0" : "?");
            cut(lane, Long.MIN_VALUE + 3, lane < 3 ? "3" : "?");
            if (lane < 3) {
                long all = 1L << bits[lane];
                cut(lane, all, "0");
                cut(lane, all + 3, "3");
                cut(lane, 2 - all, "2");
                cut(lane, all - 1, "?");
                cut(lane, all / 2, "?");
                cut(lane, all / 2 + 1, "?");
                cut(lane + 1, all, "?");
                cut(lane + 1, all + 1, "?");
                cut(lane + 1, 1 - all, "?");
            }
        }
    }

    // ---- promise 30

    private static void copyNumbers() {
        promise(30, "BAD");
        GateTable x = new GateTable();
        row(x, 0, 0, 1, 2);
        row(x, 3, 0, 3, 3);
        for (int s : outside(0, 3)) {
            due("copy from sheet " + s, x.copy(s, 0, 0, 0, 1), BAD);
            due("copy to sheet " + s, x.copy(0, 0, s, 0, 1), BAD);
            due("copy from sheet " + s + " to nothing", x.copy(s, 0, 1, 0, 1), BAD);
            due("copy from nothing to sheet " + s, x.copy(1, 0, s, 0, 1), BAD);
        }
        due("copy from 0 to 3", x.copy(0, 0, 3, 0, 2), 2);
        same("items of 3", items(x, 3, 0, 2), "12");
    }

    private static void copyMissing() {
        promise(30, "NULL (either); CAST: of unlike LANES");
        GateTable x = new GateTable();
        row(x, 0, 0, 1, 2);
        due("copy from nothing", x.copy(1, 0, 0, 0, 1), NULL);
        due("copy to nothing", x.copy(0, 0, 1, 0, 1), NULL);
        due("copy from nothing to nothing", x.copy(1, 0, 2, 0, 1), NULL);
        due("copy from nothing to itself", x.copy(1, 0, 1, 0, 0), NULL);
        due("copy of none to nothing", x.copy(0, 0, 1, 0, 0), NULL);
        due("copy of -1 to nothing", x.copy(0, -1, 1, -1, -1), NULL);
        for (int lane = 1; lane < 4; lane++) {
            x.sheet(1, lane, 2);
            due("copy of bytes to lane " + lane, x.copy(0, 0, 1, 0, 1), CAST);
            due("copy of lane " + lane + " to bytes", x.copy(1, 0, 0, 0, 1), CAST);
            due("copy of none to lane " + lane, x.copy(0, 0, 1, 0, 0), CAST);
            due("copy of -1 to lane " + lane, x.copy(0, -1, 1, 9, -1), CAST);
            x.sheet(2, lane, 2);
            due("copy of lane " + lane + " to a like one", x.copy(1, 0, 2, 0, 2), 2);
        }
        x.drop(1);
        due("copy to what was of another lane", x.copy(0, 0, 1, 0, 1), NULL);
    }

    private static void copyPlaces() {
        promise(30, "INDEX (n below 0, too)");
        GateTable x = new GateTable();
        row(x, 0, 2, 1, 2, 3, 1, 2);
        row(x, 1, 2, 0, 0, 0);
        due("copy of -1", x.copy(0, 0, 1, 0, -1), INDEX);
        due("copy of -1 from 3 to 3", x.copy(0, 3, 1, 3, -1), INDEX);
        due("copy of the least", x.copy(0, 0, 1, 0, LEAST), INDEX);
        due("copy of the most", x.copy(0, 0, 1, 0, MOST), INDEX);
        due("copy of the most from 1 to 1", x.copy(0, 1, 1, 1, MOST), INDEX);
        due("copy of the most in the same", x.copy(0, 2, 0, 1, MOST), INDEX);
        for (int far : new int[] {-1, LEAST, MOST}) {
            due("copy of 1 from " + far, x.copy(0, far, 1, 0, 1), INDEX);
            due("copy of 1 to " + far, x.copy(0, 0, 1, far, 1), INDEX);
        }
        due("copy of 4 to a row of 3", x.copy(0, 0, 1, 0, 4), INDEX);
        due("copy of 3 to item 1 of 3", x.copy(0, 0, 1, 1, 3), INDEX);
        due("copy of 3 from item 3 of 5", x.copy(0, 3, 1, 0, 3), INDEX);
        due("copy of 1 from item 5 of 5", x.copy(0, 5, 1, 0, 1), INDEX);
        due("copy of 1 to item 3 of 3", x.copy(0, 0, 1, 3, 1), INDEX);
        due("copy of 6 from a row of 5 to itself", x.copy(0, 0, 0, 0, 6), INDEX);
        same("items of 1 as they were", items(x, 1, 2, 3), "000");
        due("copy of 3 from item 2 of 5", x.copy(0, 2, 1, 0, 3), 3);
        same("items of 1", items(x, 1, 2, 3), "312");
        due("copy of 1 from item 4 of 5 to item 0 of 3", x.copy(0, 4, 1, 0, 1), 1);
        due("copy of 1 from item 0 of 5 to item 2 of 3", x.copy(0, 0, 1, 2, 1), 1);
        same("items of 1", items(x, 1, 2, 3), "211");
        same("items of 0 as they were", items(x, 0, 2, 5), "12312");
    }

    private static void copyOfNone() {
        promise(30, "of n 0, too, if i or j is below 0 or above how many there are");
        GateTable x = new GateTable();
        row(x, 0, 3, 1, 2, 3);
        row(x, 1, 3, 0, 0);
        x.sheet(2, 3, 0);
        for (int i = 0; i <= 3; i++) {
            for (int j = 0; j <= 2; j++) {
                due("copy of none from " + i + " of 3 to " + j + " of 2", x.copy(0, i, 1, j, 0), 0);
            }
        }
        for (int far : new int[] {-1, LEAST, MOST}) {
            due("copy of none from " + far, x.copy(0, far, 1, 0, 0), INDEX);
            due("copy of none to " + far, x.copy(0, 0, 1, far, 0), INDEX);
        }
        due("copy of none from 4 of 3", x.copy(0, 4, 1, 0, 0), INDEX);
        due("copy of none to 3 of 2", x.copy(0, 0, 1, 3, 0), INDEX);
        due("copy of none from 0 of none to 0 of none", x.copy(2, 0, 2, 0, 0), 0);
        due("copy of none from 1 of none", x.copy(2, 1, 0, 0, 0), INDEX);
        due("copy of none to 1 of none", x.copy(0, 0, 2, 1, 0), INDEX);
        due("copy of one to none", x.copy(0, 0, 2, 0, 1), INDEX);
        same("items of 1 as they were", items(x, 1, 3, 2), "00");
    }

    private static void copiesAsTakenAhead() {
        promise(30, "another one (or the same), as if all were taken ahead");
        for (int lane = 0; lane < 4; lane++) {
            GateTable x = new GateTable();
            row(x, 0, lane, 0, 1, 2, 3, 0, 1);
            due("copy forth by 1", x.copy(0, 0, 0, 1, 5), 5);
            same("items", items(x, 0, lane, 6), "001230");
            row(x, 0, lane, 0, 1, 2, 3, 0, 1);
            due("copy back by 1", x.copy(0, 1, 0, 0, 5), 5);
            same("items", items(x, 0, lane, 6), "123011");
            row(x, 0, lane, 0, 1, 2, 3, 0, 1);
            due("copy forth by 2", x.copy(0, 0, 0, 2, 4), 4);
            same("items", items(x, 0, lane, 6), "010123");
            due("copy to where it is", x.copy(0, 0, 0, 0, 6), 6);
            same("items", items(x, 0, lane, 6), "010123");
        }
    }

    private static void copiesBetween() {
        promise(30, "n items of a SHEET from i on come to another one from j on: n");
        GateTable x = new GateTable();
        x.sheet(0, 0, 24);
        x.sheet(1, 0, 24);
        x.item(0, 0, 0, 1);
        x.item(0, 0, 23, 3);
        due("copy of 24", x.copy(0, 0, 1, 0, 24), 24);
        due("the first is a task that ends it: 1, then 0", x.turn(1) + x.tried(1, 0, 0, 1), 2);
        due("the last", x.turn(3) + x.tried(1, 0, 23, 1), 2);
        due("the one ahead of it", x.tried(1, 0, 22, 1), 1);
        due("copy of 25", x.copy(0, 0, 1, 0, 25), INDEX);
        GateTable y = new GateTable();
        row(y, 0, 1, 500, -3, 2);
        row(y, 1, 1, 1, 1, 1, 1, 1);
        due("copy of 3 to the middle", y.copy(0, 0, 1, 1, 3), 3);
        same("items", items(y, 1, 1, 5), "1??21");
        y.item(0, 1, 0, 0);
        same("items as they were, the other sheet being changed", items(y, 1, 1, 5), "1??21");
        y.drop(0);
        same("items as they were, the other sheet being dropped", items(y, 1, 1, 5), "1??21");
    }
}
