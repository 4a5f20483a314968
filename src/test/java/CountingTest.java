/** Promises 46 to 52: COUNTED NAMES, BARRED ROWS, counting, and what is forced. */
public final class CountingTest {
    private static final int BAD = ClauseCourt.BAD;
    private static final int STATE = ClauseCourt.STATE;
    private static final int FULL = ClauseCourt.FULL;
    private static final int SPENT = ClauseCourt.SPENT;
    private static final int NONE = ClauseCourt.NONE;
    private static final Due due = new Due("CountingTest");

    public static void main(String[] args) {
        counted();
        nexts();
        nextWithoutCounted();
        nextFull();
        nextAndTheRest();
        counts();
        countSpent();
        forced();
        forcedUpToAQuarrel();
        forcedByOrder();
        allNamesForced();
        due.end();
    }

    private static void counted() {
        ClauseCourt c = Hand.withNames(25);
        due.is("counted(0)", BAD, c.counted(0, true));
        due.is("counted(26)", BAD, c.counted(26, false));
        due.is("counted(-1)", BAD, c.counted(-1, true));
        due.is("counted(3, false)", 0, c.counted(3, false));
        due.is("counted(3, true)", 0, c.counted(3, true));
        due.is("counted(3, true)", 1, c.counted(3, true));
        due.is("about(7)", 1, c.about(7));
        due.is("counted(3, false)", 1, c.counted(3, false));
        due.is("about(7)", 0, c.about(7));
        for (int n = 1; n <= 20; n++) {
            due.is("counted(" + n + ")", 0, c.counted(n, true));
        }
        due.is("the 21st", FULL, c.counted(21, true));
        due.is("status", FULL, c.status());
        due.is("one that is", 1, c.counted(20, true));
        due.is("one that is not", 0, c.counted(21, false));
        due.is("BAD ahead of FULL", BAD, c.counted(26, true));
        due.is("about(7)", 20, c.about(7));
        c.counted(5, false);
        due.is("there is room again", 0, c.counted(21, true));
    }

    private static ClauseCourt some() {
        ClauseCourt c = Hand.withNames(3);
        Hand.clause(c, 1, 3);
        c.counted(3, true);
        c.counted(1, true);
        return c;
    }

    private static void nexts() {
        ClauseCourt c = some();
        due.is("next(0)", BAD, c.next(0));
        due.is("next(5001)", BAD, c.next(5001));
        due.is("next(2)", SPENT, c.next(2));
        due.is("about(5)", 0, c.about(5));
        due.is("goOn", STATE, c.goOn(1));
        due.is("-1 DECIDED, 3 FORCED, -2 DECIDED", 1, c.next(3));
        due.is("solved", "1 3 1 2 0 0 0 0 0 2", Hand.solved(c));
        due.is("what is FALSE then, by rising NAMES", "1 -3", Hand.line(c, 1000));
        due.is("truth(3)", 1, c.truth(3));
        due.is("next", 1, c.next(100));
        due.is("about(5)", 2, c.about(5));
        due.is("the third", 1, c.next(100));
        due.is("no more", 0, c.next(100));
        due.is("about(5)", 3, c.about(5));
        due.is("no more", 0, c.next(100));
        due.is("solve has none BARRED", 1, c.solve(3));
        due.is("solved", "1 3 1 2 0 0 0 0 0 2", Hand.solved(c));
        due.is("unbar", 3, c.unbar());
        due.is("unbar", 0, c.unbar());
        due.is("line(1000, -1)", NONE, c.line(1000, -1));
        due.is("next", 1, c.next(100));
    }

    private static void nextWithoutCounted() {
        ClauseCourt c = Hand.withNames(1);
        due.is("next", 1, c.next(10));
        due.is("a BARRED ROW without ITEMS", 0, c.line(1000, -1));
        due.is("next", 0, c.next(10));
        due.is("its QUARREL", "1000 0 0 0 0", Hand.quarrel(c));
        due.is("count", 1, c.count(64, 100));
    }

    private static void nextFull() {
        ClauseCourt c = Hand.withNames(7);
        for (int n = 1; n <= 7; n++) {
            c.counted(n, true);
        }
        for (int i = 1; i <= 64; i++) {
            due.is("next " + i, 1, c.next(2000));
            due.is("about(5)", i, c.about(5));
        }
        String solved = Hand.solved(c);
        due.is("status", 0, c.status());
        due.is("the 65th", FULL, c.next(2000));
        due.is("status", FULL, c.status());
        due.is("refused ahead of SOLVING", solved, Hand.solved(c));
        due.is("BAD ahead of FULL", BAD, c.next(0));
        due.is("count is not full", 64, c.count(64, 5000));
        due.is("about(5)", 64, c.about(5));
    }

    private static void nextAndTheRest() {
        ClauseCourt c = some();
        c.assume(-1);
        c.assume(1);
        due.is("no ITEM is ASSUMED in next", 1, c.next(100));
        due.is("HOLDS", 1, c.ask(0, 0));
        due.is("core", STATE, c.core(0));
        due.is("about(4)", 2, c.about(4));
        due.is("nor in count", 3, c.count(64, 1000));
        due.is("but in solve", 0, c.solve(100));
        due.is("core", 2, c.core(1));
    }

    private static void counts() {
        ClauseCourt c = some();
        due.is("count(0, 9)", BAD, c.count(0, 9));
        due.is("count(65, 9)", BAD, c.count(65, 9));
        due.is("count(1, 0)", BAD, c.count(1, 0));
        due.is("count(1, 5001)", BAD, c.count(1, 5001));
        due.is("count(64, 1000)", 3, c.count(64, 1000));
        due.is("count(2, 1000)", 2, c.count(2, 1000));
        due.is("count(3, 1000)", 3, c.count(3, 1000));
        due.is("about(5)", 0, c.about(5));
        due.is("solved", NONE, c.solved(0));
        c.next(100);
        String solved = Hand.solved(c);
        due.is("no ROW BARRED at first", 3, c.count(64, 1000));
        due.is("the latest SOLVING is left alone", solved, Hand.solved(c));
        due.is("about(5)", 1, c.about(5));
        Hand.clause(c, -1);
        Hand.clause(c, -3);
        due.is("count", 0, c.count(64, 1000));
    }

    /** Each of the first two SOLVINGS takes 3 STEPS. */
    private static void countSpent() {
        ClauseCourt c = Hand.withNames(3);
        c.counted(3, true);
        due.is("count(1, 2)", SPENT, c.count(1, 2));
        due.is("status", 0, c.status());
        due.is("count(1, 3)", 1, c.count(1, 3));
        due.is("count(2, 5)", SPENT, c.count(2, 5));
        due.is("count(2, 6)", 2, c.count(2, 6));
        due.is("NO, too, takes STEPS", SPENT, c.count(3, 6));
    }

    private static void forced() {
        ClauseCourt c = Hand.withNames(4);
        due.is("forced", 0, c.forced());
        due.is("forcedAt(0)", NONE, c.forcedAt(0));
        due.is("why(1)", NONE, c.why(1));
        due.is("why(0)", BAD, c.why(0));
        due.is("why(5)", BAD, c.why(5));
        Hand.clause(c, -1, 3);
        Hand.clause(c, 1);
        Hand.clause(c, -3, -2);
        c.assume(4);
        due.is("forced", 3, c.forced());
        due.is("forcedAt(0)", 1, c.forcedAt(0));
        due.is("forcedAt(1)", 3, c.forcedAt(1));
        due.is("forcedAt(2)", -2, c.forcedAt(2));
        due.is("forcedAt(3)", NONE, c.forcedAt(3));
        due.is("forcedAt(-1)", NONE, c.forcedAt(-1));
        due.is("why(1)", 1, c.why(1));
        due.is("why(3)", 0, c.why(3));
        due.is("why(2)", 2, c.why(2));
        due.is("why(4)", NONE, c.why(4));
        due.is("status", BAD, c.status());
        due.is("no SOLVING", NONE, c.solved(0));
        c.counted(4, true);
        c.next(100);
        due.is("BARRED and LEARNT ROWS are nothing to it", 3, c.forced());
    }

    private static void forcedUpToAQuarrel() {
        ClauseCourt c = Hand.withNames(3);
        Hand.clause(c, 1);
        Hand.clause(c, -1, 2);
        Hand.clause(c, -1, -2);
        Hand.clause(c, 3);
        due.is("forced", NONE, c.forced());
        due.is("forcedAt(0)", 1, c.forcedAt(0));
        due.is("forcedAt(1)", 2, c.forcedAt(1));
        due.is("forcedAt(2)", NONE, c.forcedAt(2));
        due.is("why(2)", 1, c.why(2));
        due.is("why(3)", NONE, c.why(3));
        due.is("status", 0, c.status());
        ClauseCourt d = Hand.withNames(1);
        Hand.clause(d, 1);
        Hand.clause(d);
        due.is("a ROW without ITEMS", NONE, d.forced());
        due.is("forcedAt(0)", NONE, d.forcedAt(0));
        due.is("why(1)", NONE, d.why(1));
    }

    /** Each ATMOST of 12 with 0 makes 11 NAMES and forces 23; the 300th is forced last of all. */
    private static void allNamesForced() {
        ClauseCourt c = Hand.withNames(0);
        for (int rule = 0; rule < 13; rule++) {
            int names = c.names(12);
            c.row(0, 12);
            for (int i = 0; i < 12; i++) {
                c.put(0, i, names - i);
            }
            due.is("atMost", rule, c.atMost(0, 0));
        }
        due.is("names", 300, c.names(1));
        due.is("forced", 299, c.forced());
        Hand.clause(c, -300, 1);
        due.is("forced", 300, c.forced());
        due.is("forcedAt(299)", -300, c.forcedAt(299));
        due.is("forcedAt(300)", NONE, c.forcedAt(300));
        due.is("solve", 1, c.solve(300));
        due.is("solved", "1 300 300 0 0 0 0 0 0 0", Hand.solved(c));
        Hand.clause(c, 300, 2);
        due.is("a QUARREL behind all 300", NONE, c.forced());
        due.is("forcedAt(299)", -300, c.forcedAt(299));
        due.is("solve", 0, c.solve(300));
        due.is("core", 1, c.core(0) > 0 ? 1 : 0);
        due.is("take", 1, c.take());
        due.is("check", 1, c.check());
        due.is("why(300)", c.about(2) - 2, c.why(300));
    }

    /** Each time the first ROW by number that forces does so. */
    private static void forcedByOrder() {
        ClauseCourt c = Hand.withNames(4);
        Hand.clause(c, -3, 4);
        Hand.clause(c, -2, 3);
        Hand.clause(c, 1);
        Hand.clause(c, 2);
        Hand.clause(c, 3);
        due.is("forced", 4, c.forced());
        due.is("forcedAt(0)", 1, c.forcedAt(0));
        due.is("forcedAt(1)", 2, c.forcedAt(1));
        due.is("forcedAt(2)", 3, c.forcedAt(2));
        due.is("forcedAt(3)", 4, c.forcedAt(3));
        due.is("why(3)", 1, c.why(3));
        due.is("why(4)", 0, c.why(4));
    }
}
