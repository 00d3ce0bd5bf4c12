/** The edges of promises 15 to 19, and of what the terms say of order, loops, ways, odds and the nearest. */
public final class ComingEdges extends Edges {
    private static final String[][] PAIRS = {
        {"a(b())", "b(a())"}, {"c()d()a(b())", "b(a())"}, {"a(b(c()))", "c(b(a()))"}, {"a(b())c(d())", "d(c())b(a())"},
        {"a(a(b()))", "b(a(b()))"}, {"[a(b(!))]c()", "b(a(!))"}, {"a(a+1b(b+1!))", "b(2{b+1}a())"},
        {"a(b())b(a())", "a(b())b(a())"}, {"a()b(c())", "c()a(b())"}, {"a(b()c())", "c(a())b(a())"},
        {"a(b()b())", "b(a())"}, {"a(b())", "b(a()a())"}, {"a(2{b()})", "b(2{a()})"}};
    private static final String[] FREE_BOTH = {"2{5{c()}}3{c()}a(b())", "2{5{d()}}3{d()}b(a())"};

    public static void main(String[] args) {
        aheadNumbers();
        aheadInTraces();
        aheadByTasks();
        loopNumbers();
        loopsBySize();
        gatesInLoops();
        pairNumbers();
        waysWithoutRings();
        waysThatWait();
        waysToRings();
        waysFromTheBeginning();
        oddsOfNone();
        oddsInLowestTerms();
        oddsWhereOneCan();
        nearest();
        end();
    }

    // ---- promise 15

    private static void aheadNumbers() {
        promise(15, "BAD: also b is a");
        GateTable x = with("a(f())");
        for (int g : outside(0, 5)) {
            due("ahead(" + g + ", 1)", x.ahead(g, 1), BAD);
            due("ahead(1, " + g + ")", x.ahead(1, g), BAD);
            due("ahead(" + g + ", " + g + ")", x.ahead(g, g), BAD);
        }
        for (int g = 0; g < 6; g++) {
            due("ahead(" + g + ", " + g + ")", x.ahead(g, g), BAD);
        }
        due("ahead(0, 5)", x.ahead(0, 5), 1);
        due("ahead(5, 0)", x.ahead(5, 0), 0);
    }

    /** Of one program: the pairs of gates of which one is ahead of the other, and no others. */
    private static void order(String program, String... pairs) {
        GateTable x = with(program);
        StringBuilder got = new StringBuilder();
        for (int a = 0; a < 6; a++) {
            for (int b = 0; b < 6; b++) {
                if (a != b && x.ahead(a, b) == 1) {
                    got.append((char) ('a' + a)).append((char) ('a' + b)).append(' ');
                }
            }
        }
        StringBuilder want = new StringBuilder();
        for (String pair : pairs) {
            want.append(pair).append(' ');
        }
        same("the order of " + program, got.toString(), want.toString());
    }

    private static void aheadInTraces() {
        promise(15, "if some TASK's TRACE has an ENTER of b while it is in a, and not in b");
        order("");
        order("a()b()");
        order("a(b())", "ab");
        order("a(b(c()))", "ab", "ac", "bc");
        order("a(b()c())", "ab", "ac");
        order("a(a())");
        order("a(a()b())", "ab");
        order("a(a(b()))", "ab");
        order("b(a(b()))", "ba");
        order("b(a(b())c(a()))", "ba", "bc", "ca");
        order("a(b())b(a())", "ab", "ba");
        order("a(!b())");
        order("a(b(!)c())", "ab");
        order("a([b(!)]c())", "ab", "ac");
        order("a(2{b()})", "ab");
        order("f(e(d()))", "ed", "fd", "fe");
    }

    private static void aheadByTasks() {
        promise(15, "some TASK's");
        for (int t = 0; t < 4; t++) {
            GateTable x = new GateTable();
            tell(x, t, "c(d())");
            due("ahead(2, 3) by task " + t, x.ahead(2, 3), 1);
            due("ahead(3, 2)", x.ahead(3, 2), 0);
            x.gone(3);
            due("ahead(2, 3), d being gone", x.ahead(2, 3), 0);
            x.gone(3);
            due("ahead(2, 3), d being there", x.ahead(2, 3), 1);
            x.program(t);
            due("ahead(2, 3) of no program", x.ahead(2, 3), 0);
        }
        GateTable y = with("a()", "b()");
        turns(y, 0, 1);
        due("ahead(0, 1) of two tasks that hold one each", y.ahead(0, 1), 0);
    }

    // ---- promise 16

    private static void loopNumbers() {
        promise(16, "BAD");
        GateTable x = with("a(b())", "b(a())");
        for (int what : outside(0, 2)) {
            due("loops(" + what + ")", x.loops(what), BAD);
        }
    }

    private static void loops(GateTable x, int shortest, int gates) {
        due("whether there is a loop", x.loops(0), gates == 0 ? 0 : 1);
        due("gates of the shortest", x.loops(1), shortest);
        due("gates in loops", x.loops(2), gates);
    }

    private static void loopsBySize() {
        promise(16, "0 whether there is one (1, 0), 1 GATES of the shortest, how many (NONE)");
        loops(new GateTable(), NONE, 0);
        loops(with("a(a())"), NONE, 0);
        loops(with("a(b(a()))"), NONE, 0);
        loops(with("a(b(c(d(e(f())))))"), NONE, 0);
        loops(with("a(b())", "b(a())"), 2, 3);
        loops(with("a(b())b(a())"), 2, 3);
        loops(with("e(f())", "", "", "f(e())"), 2, 48);
        loops(with("a(b())", "b(c())", "c(a())"), 3, 7);
        loops(with("a(b())", "b(c())", "c(d())", "d(a())"), 4, 15);
        loops(with("a(b())b(c())c(d())", "d(e())e(a())"), 5, 31);
        loops(with("a(b())b(c())c(d())", "d(e())e(f())f(a())"), 6, 63);
        loops(with("a(b())b(c())c(d())", "d(e())e(f())"), NONE, 0);
    }

    private static void gatesInLoops() {
        promise(16, "2 GATES that are in LOOPS (a set)");
        loops(with("a(b())b(a())b(c())", "c(d())d(e())e(d())"), 2, 27);
        loops(with("a(b())b(c())c(a())", "d(e())e(d())f(a())"), 2, 31);
        loops(with("a(b())b(c())c(a())a(d())", "d(e())e(f())"), 3, 7);
        loops(with("f(a())a(b())b(c())c(a())"), 3, 7);
        loops(with("a(b())b(a())b(c())c(b())"), 2, 7);
        promise(16, "a loop that a gate makes when it comes");
        GateTable x = with("a(b())", "b(c())", "c(a())");
        x.gone(1);
        loops(x, NONE, 0);
        x.gone(1);
        loops(x, 3, 7);
    }

    // ---- promises 17 to 19

    private static void pairNumbers() {
        GateTable x = with("a()", "b()");
        for (int t : outside(0, 3)) {
            promise(17, "BAD: also the same one");
            due("ways(" + t + ", 0, 0)", x.ways(t, 0, 0), BAD);
            due("ways(0, " + t + ", 1)", x.ways(0, t, 1), BAD);
            promise(18, "BAD: also the same one");
            due("odds(" + t + ", 0, 0)", x.odds(t, 0, 0), BAD);
            due("odds(0, " + t + ", 1)", x.odds(0, t, 1), BAD);
            promise(19, "BAD: also the same one");
            due("near(" + t + ", 0)", x.near(t, 0), BAD);
            due("near(0, " + t + ")", x.near(0, t), BAD);
        }
        for (int t = 0; t < 4; t++) {
            due("near(" + t + ", " + t + ")", x.near(t, t), BAD);
            promise(17, "BAD: also the same one");
            due("ways(" + t + ", " + t + ", 0)", x.ways(t, t, 0), BAD);
            promise(18, "BAD: also the same one");
            due("odds(" + t + ", " + t + ", 0)", x.odds(t, t, 0), BAD);
        }
        for (int what : outside(0, 1)) {
            due("odds(0, 1, " + what + ")", x.odds(0, 1, what), BAD);
            promise(17, "BAD");
            due("ways(0, 1, " + what + ")", x.ways(0, 1, what), BAD);
        }
        due("ways(3, 0, 0)", x.ways(3, 0, 0), 1);
        due("ways(0, 3, 0)", x.ways(0, 3, 0), 1);
    }

    private static void ways(String one, String two, long done, long stuck) {
        GateTable x = with(one, two);
        String both = " of " + one + " and " + two;
        due("ways at which all is done" + both, x.ways(0, 1, 0), done);
        due("ways at which neither can go on" + both, x.ways(0, 1, 1), stuck);
        due("the same of " + two + " and " + one, x.ways(1, 0, 0), done);
        due("the same, stuck, of " + two + " and " + one, x.ways(1, 0, 1), stuck);
    }

    private static void waysWithoutRings() {
        promise(17, "0 how many at which all is done");
        ways("", "", 1, 0);
        ways("a()", "", 1, 0);
        ways("!", "a()", 1, 0);
        ways("5{3{a()}}", "", 1, 0);
        ways("a()", "b()", 6, 0);
        ways("a(a+1a+1)", "b(b+1b+1)", 70, 0);
        ways("a()", "5{3{b()}}", 496, 0);
        ways("5{3{a()}}", "5{3{b()}}", 118264581564861424L, 0);
    }

    private static void waysThatWait() {
        promise(17, "one of both that can (none waits for what the other one is in) does its next STEP");
        ways("a()", "a()", 2, 0);
        ways("a(a+1)", "a(a+1!)", 2, 0);
        ways("a(a())", "a()", 2, 0);
        // the stay of the second one is ahead of both of the first, between them or behind them
        ways("a()a()", "a()", 3, 0);
        ways("a(b())", "a(b())", 2, 0);
        ways("a(b(a+1)!)", "a()", 2, 0);
        // the stay of the second one is ahead of b( of the first, whose a( stands anywhere by it, or behind b), likewise a)
        ways("a(b())", "b()", 6, 0);
    }

    private static void waysToRings() {
        promise(17, "1 how many at which neither can go on");
        // a( b( or b( a( to the ring; else b) of one is ahead of all of the other, whose first may be ahead of a)
        ways("a(b())", "b(a())", 4, 2);
        ways("a(b(b+1)a+1)", "b(a(a+7)b-1)", 6, 2);
        // to the ring the second one leaves a first, then both enter, either one ahead
        ways("a(b())", "a()b(a())", 5, 2);
        ways("a(b())", "a(c())b(a())", 5, 2);
        // two steps of either one to the ring; else one that is in both gates ahead of the other, 6 ways from there
        ways("a(a(b()))", "b(b(a()))", 12, 6);
        // 26 free steps and one more of either one, in any order: 54 over 27
        due("ways stuck behind 27 steps of either one", with(FREE_BOTH).ways(0, 1, 1), 1946939425648112L);
        countedOnFoot();
    }

    private static void countedOnFoot() {
        for (String[] pair : PAIRS) {
            GateTable x = with(pair);
            Walk walk = new Walk(x);
            walk.from(0, 0, 1L << 40);
            String both = " of " + pair[0] + " and " + pair[1];
            promise(17, "WAYS, each counted on foot");
            due("ways at which all is done" + both, x.ways(0, 1, 0), walk.done);
            due("ways at which neither can go on" + both, x.ways(0, 1, 1), walk.stuck);
            promise(18, "ODDS, each way weighed on foot");
            due("above by below" + both, x.odds(0, 1, 0) * ((1L << 40) / x.odds(0, 1, 1)), walk.weight);
            promise(19, "NEAR, each way measured on foot");
            due("near" + both, x.near(0, 1), walk.nearest);
        }
    }

    /** All ways of tasks 0 and 1, one by one, by the steps that the object tells. */
    private static final class Walk {
        private final int[] steps = new int[2];
        private final int[][] kinds = new int[2][30];
        private final int[][] gates = new int[2][30];
        long done = 0;
        long stuck = 0;
        long weight = 0;
        int nearest = NONE;

        Walk(GateTable x) {
            steps[0] = x.alone(0, 0);
            steps[1] = x.alone(1, 0);
            for (int t = 0; t < 2; t++) {
                for (int k = 0; k < steps[t]; k++) {
                    kinds[t][k] = x.step(t, k, 0);
                    gates[t][k] = x.step(t, k, 1);
                }
            }
        }

        private boolean isIn(int task, int made, int gate) {
            int times = 0;
            for (int k = 0; k < made; k++) {
                if (gates[task][k] == gate && kinds[task][k] != 2) {
                    times += kinds[task][k] == 0 ? 1 : -1;
                }
            }
            return times > 0;
        }

        private boolean can(int task, int made, int others) {
            return made < steps[task] && (kinds[task][made] != 0 || !isIn(1 - task, others, gates[task][made]));
        }

        void from(int p, int q, long share) {
            boolean one = can(0, p, q);
            boolean two = can(1, q, p);
            if (one) {
                from(p + 1, q, two ? share / 2 : share);
            }
            if (two) {
                from(p, q + 1, one ? share / 2 : share);
            }
            if (!one && !two && p == steps[0] && q == steps[1]) {
                done++;
            } else if (!one && !two) {
                stuck++;
                weight += share;
                nearest = nearest == NONE ? p + q : Math.min(nearest, p + q);
            }
        }
    }

    private static void waysFromTheBeginning() {
        promise(17, "from their beginnings on, by their TRACES");
        GateTable x = with("a(b())", "b(a())", "b()");
        turns(x, 2, 0);
        due("ways done, one being on its way", x.ways(0, 1, 0), 4);
        due("ways stuck, one being on its way", x.ways(0, 1, 1), 2);
        promise(18, "from their beginnings on");
        due("odds above, one being on its way", x.odds(0, 1, 0), 1);
        promise(19, "from their beginnings on");
        due("near, one being on its way", x.near(0, 1), 2);
        turns(x, 0, 2, 0, 0, 0);
        due("ended", x.count(3), 5);
        due("near, one being ENDED", x.near(0, 1), 2);
        promise(17, "by their TRACES");
        x.gone(1);
        due("ways done of a( a) and none", x.ways(0, 1, 0), 1);
        due("ways stuck of a( a) and none", x.ways(0, 1, 1), 0);
        promise(19, "NONE");
        due("near of a( a) and none", x.near(0, 1), NONE);
    }

    private static void odds(String one, String two, long above, long below) {
        GateTable x = with(one, two);
        String both = " of " + one + " and " + two;
        due("above" + both, x.odds(0, 1, 0), above);
        due("below" + both, x.odds(0, 1, 1), below);
        due("above, the other way round" + both, x.odds(1, 0, 0), above);
        due("below, the other way round" + both, x.odds(1, 0, 1), below);
    }

    private static void oddsOfNone() {
        promise(18, "Fractions are in lowest terms: 0 above, 1 below (0 is 0 by 1)");
        odds("", "", 0, 1);
        odds("a()", "", 0, 1);
        odds("a(b())", "a(b())", 0, 1);
        odds("5{3{a()}}", "5{3{b()}}", 0, 1);
        odds("5{3{a()}}", "5{3{a()}}", 0, 1);
        odds("c(a(b()))", "c(b(a()))", 0, 1);
    }

    private static void oddsInLowestTerms() {
        promise(18, "how likely neither can at last, though not all is done");
        // m free steps ahead of a(: of m + 2 draws one is the second task's, so m + 2 by 2 to the m + 2
        odds("a(b())", "b(a())", 1, 2);
        odds("c(a(b()))", "b(a())", 3, 8);
        odds("c()a(b())", "b(a())", 1, 4);
        odds("c()d()a(b())", "b(a())", 3, 32);
        odds("c()d()e()a(b())", "b(a())", 1, 32);
        odds("2{5{c()}}3{c()}a(b())", "b(a())", 7, 67108864);
        // 26 free steps ahead of either one: 54 over 27 by 2 to the 54, which is 16 times more than needed
        odds(FREE_BOTH[0], FREE_BOTH[1], 121683714103007L, 1125899906842624L);
    }

    private static void oddsWhereOneCan() {
        promise(18, "one of those that can is drawn, both alike likely if both can");
        // a( of the first one, and there is no ring; a( of the second one, which must leave it; then one of two again
        odds("a(b())", "a()b(a())", 1, 4);
        odds("a(b())", "a(c())b(a())", 1, 4);
        odds("a(b())", "a(a+1a+1a+1)b(a())", 1, 4);
    }

    private static void near(String one, String two, int want) {
        GateTable x = with(one, two);
        due("near of " + one + " and " + two, x.near(0, 1), want);
        due("near of " + two + " and " + one, x.near(1, 0), want);
    }

    private static void nearest() {
        promise(19, "the fewest STEPS of both behind which that is so; NONE");
        near("", "", NONE);
        near("a(b())", "a(b())", NONE);
        near("a()b()", "b()a()", NONE);
        near("c(a(b()))", "c(b(a()))", NONE);
        near("a(b())", "b(a())", 2);
        near("a(a+1b())", "b(a())", 3);
        near("a(b())", "a()b(a())", 4);
        near("a(a(b()))", "b(b(a()))", 4);
        near(FREE_BOTH[0], FREE_BOTH[1], 54);
        near("a(b())c(d())", "b(a())d(c())", 2);
        near("a(b())c(d())", "d(c())e()e()b(a())", 6);
        near("a(b())c(d())", "e()e()d(c())b(a())", 10);
        GateTable x = with("", "a(b())", "", "b(a())");
        due("near(1, 3)", x.near(1, 3), 2);
        due("near(0, 3)", x.near(0, 3), NONE);
    }
}
