/** Promises 25 to 35: what SOLVING is told, SOLVING itself, and what is told of it. */
public final class SolvingTest {
    private static final int BAD = ClauseCourt.BAD;
    private static final int STATE = ClauseCourt.STATE;
    private static final int FULL = ClauseCourt.FULL;
    private static final int SPENT = ClauseCourt.SPENT;
    private static final int NONE = ClauseCourt.NONE;
    private static final int NOTHING = ClauseCourt.NOTHING;
    private static final int BEYOND = ClauseCourt.BEYOND;
    private static final Due due = new Due("SolvingTest");

    public static void main(String[] args) {
        assumeAndFree();
        weights();
        beginAndForget();
        nothingToSolve();
        learning();
        spent();
        noAtLevelNone();
        noByAssumed();
        noByContraries();
        assumedInOrder();
        beginningAnew();
        forgetting();
        whatEndsGoOn();
        whatLeavesGoOn();
        truths();
        figures();
        recordFull();
        lastNames();
        quarrelWithLearnt();
        due.end();
    }

    private static void assumeAndFree() {
        ClauseCourt c = Hand.withNames(30);
        due.is("free", 0, c.free());
        due.is("assume(0)", BEYOND, c.assume(0));
        due.is("assume(301)", BEYOND, c.assume(301));
        due.is("assume(-301)", BEYOND, c.assume(-301));
        due.is("assume(MIN)", BEYOND, c.assume(Integer.MIN_VALUE));
        due.is("assume(31)", NOTHING, c.assume(31));
        due.is("assume(-31)", NOTHING, c.assume(-31));
        due.is("assume(3)", 1, c.assume(3));
        due.is("assume(3) again", STATE, c.assume(3));
        due.is("status", STATE, c.status());
        due.is("assume(-3)", 2, c.assume(-3));
        for (int n = 4; n <= 21; n++) {
            due.is("assume(" + n + ")", n - 1, c.assume(n));
        }
        due.is("the 21st", FULL, c.assume(22));
        due.is("BEYOND ahead of FULL", BEYOND, c.assume(0));
        due.is("NOTHING ahead of FULL", NOTHING, c.assume(31));
        due.is("STATE ahead of FULL", STATE, c.assume(-3));
        due.is("about(4)", 20, c.about(4));
        due.is("free", 20, c.free());
        due.is("about(4)", 0, c.about(4));
        due.is("assume(3) anew", 1, c.assume(3));
    }

    private static void weights() {
        ClauseCourt c = Hand.withNames(3);
        due.is("weighs ahead of SOLVING", 0, c.weighs(1));
        due.is("weight(0)", BAD, c.weight(0, 1));
        due.is("weight(4)", BAD, c.weight(4, 1));
        due.is("weight(1, -1)", BAD, c.weight(1, -1));
        due.is("weight(1, 1001)", BAD, c.weight(1, 1001));
        due.is("weight(2, 1000)", 0, c.weight(2, 1000));
        due.is("weight(2, 5)", 1000, c.weight(2, 5));
        due.is("weight(2, 5)", 5, c.weight(2, 5));
        due.is("weighs(0)", BAD, c.weighs(0));
        due.is("weighs(4)", BAD, c.weighs(4));
        due.is("status", BAD, c.status());
        due.is("weighs(2) ahead of SOLVING", 0, c.weighs(2));
        Hand.clause(c, 1, 2);
        due.is("solve", 1, c.solve(9));
        due.is("the heaviest NAME is DECIDED first, as 0", 0, c.truth(2));
        due.is("and 1 is FORCED", 1, c.truth(1));
        due.is("weighs(2)", 5, c.weighs(2));
        due.is("weighs(1)", 0, c.weighs(1));
        c.weight(2, 9);
        c.names(1);
        due.is("weighs(2) as SOLVING left it", 5, c.weighs(2));
        due.is("weighs of a NAME that came since", 0, c.weighs(4));
        c.weight(4, 7);
        due.is("weighs of a NAME that came since", 0, c.weighs(4));
        c.solve(9);
        due.is("weighs(4)", 7, c.weighs(4));
    }

    private static void beginAndForget() {
        ClauseCourt c = new ClauseCourt();
        due.is("begin(-1)", BAD, c.begin(-1));
        due.is("begin(101)", BAD, c.begin(101));
        due.is("begin(100)", 0, c.begin(100));
        due.is("begin(0)", 100, c.begin(0));
        due.is("begin(3)", 0, c.begin(3));
        due.is("forget(-1)", BAD, c.forget(-1));
        due.is("forget(801)", BAD, c.forget(801));
        due.is("status", BAD, c.status());
        due.is("forget(800)", 0, c.forget(800));
        due.is("forget(0)", 800, c.forget(0));
        due.is("begin(3)", 3, c.begin(3));
    }

    private static void nothingToSolve() {
        ClauseCourt c = new ClauseCourt();
        due.is("solved ahead of SOLVING", "-1005 0 0 0 0 0 0 0 0 0", Hand.solved(c));
        due.is("quarrel ahead of SOLVING", "-1005 -1005 -1005 -1005 -1005", Hand.quarrel(c));
        due.is("solve(0)", BAD, c.solve(0));
        due.is("solve(5001)", BAD, c.solve(5001));
        due.is("solve(-1)", BAD, c.solve(-1));
        due.is("solved behind a refused one", NONE, c.solved(0));
        due.is("goOn ahead of SOLVING", STATE, c.goOn(1));
        due.is("solve(1)", 1, c.solve(1));
        due.is("solved", "1 0 0 0 0 0 0 0 0 0", Hand.solved(c));
        Hand.clause(c);
        due.is("a ROW without ITEMS", 0, c.solve(1));
        due.is("solved", "0 0 0 0 0 0 0 0 1 0", Hand.solved(c));
        due.is("quarrel", "0 0 0 0 0", Hand.quarrel(c));
        due.is("its CORE", "0", Hand.core(c, 0));
    }

    /** -1 is DECIDED, 2 FORCED by ROW 0; of ROW 1 the NEW ROW 1 is learnt; 1 FORCED by it, 2 DECIDED by its LATEST TRUTH. */
    private static ClauseCourt twoRows() {
        ClauseCourt c = Hand.withNames(2);
        Hand.clause(c, 1, 2);
        Hand.clause(c, 1, -2);
        return c;
    }

    private static void learning() {
        ClauseCourt c = twoRows();
        due.is("solve", 1, c.solve(5));
        due.is("solved", "1 5 2 2 1 0 0 1 1 1", Hand.solved(c));
        due.is("quarrel", "1 1 0 2 1", Hand.quarrel(c));
        due.is("the NEW ROW", "1", Hand.line(c, 2000));
        due.is("line(2001, -1)", NONE, c.line(2001, -1));
        due.is("weighs(1)", 64, c.weighs(1));
        due.is("weighs(2)", 64, c.weighs(2));
        due.is("truth(1)", 1, c.truth(1));
        due.is("truth(2), its LATEST one", 1, c.truth(2));
        due.is("core", STATE, c.core(0));
    }

    private static void spent() {
        for (int steps = 1; steps < 5; steps++) {
            ClauseCourt c = twoRows();
            due.is("solve(" + steps + ")", SPENT, c.solve(steps));
            due.is("status", 0, c.status());
            due.is("STEPS", steps, c.solved(1));
            due.is("said", SPENT, c.solved(0));
            due.is("truth", STATE, c.truth(1));
            due.is("goOn(0)", BAD, c.goOn(0));
            due.is("goOn(5001)", BAD, c.goOn(5001));
            due.is("goOn", 1, c.goOn(5 - steps));
            due.is("solved", "1 5 2 2 1 0 0 1 1 1", Hand.solved(c));
            due.is("quarrel", "1 1 0 2 1", Hand.quarrel(c));
            due.is("goOn behind YES", STATE, c.goOn(1));
            due.is("solve anew", 1, c.solve(5));
        }
        ClauseCourt c = twoRows();
        c.solve(2);
        due.is("ahead of LEARNING", "-1004 2 1 1 0 0 0 0 0 1", Hand.solved(c));
        due.is("quarrel", NONE, c.quarrel(0));
        due.is("goOn(1)", SPENT, c.goOn(1));
        due.is("behind LEARNING", "-1004 3 1 1 1 0 0 1 1 1", Hand.solved(c));
        due.is("quarrel", "1 1 0 2 1", Hand.quarrel(c));
        due.is("goOn(1)", SPENT, c.goOn(1));
        due.is("goOn(1)", 1, c.goOn(1));
    }

    private static ClauseCourt fourRows() {
        ClauseCourt c = twoRows();
        Hand.clause(c, -1, 2);
        Hand.clause(c, -1, -2);
        return c;
    }

    private static void noAtLevelNone() {
        ClauseCourt c = fourRows();
        due.is("solve(4)", SPENT, c.solve(4));
        due.is("goOn(1)", 0, c.goOn(1));
        due.is("solved", "0 5 3 1 1 0 0 1 2 1", Hand.solved(c));
        due.is("quarrel", "3 0 0 0 0", Hand.quarrel(c));
        due.is("CORE's ROWS", "0 1 2 3", Hand.core(c, 0));
        due.is("CORE's ITEMS", "", Hand.core(c, 1));
        due.is("truth", STATE, c.truth(1));
        due.is("the ROW by NO has no number", NONE, c.line(2001, -1));
        due.is("goOn", STATE, c.goOn(1));
        due.is("status", STATE, c.status());
    }

    private static void noByAssumed() {
        ClauseCourt c = Hand.withNames(4);
        Hand.clause(c, 4);
        Hand.clause(c, -1, 2, -4);
        Hand.clause(c, 3, 4);
        c.assume(3);
        c.assume(1);
        c.assume(-2);
        due.is("solve", 0, c.solve(100));
        due.is("solved", "0 4 2 2 0 0 0 0 1 2", Hand.solved(c));
        due.is("quarrel", NONE, c.quarrel(0));
        due.is("CORE's ROWS, those of LEVEL 0 too", "0 1", Hand.core(c, 0));
        due.is("CORE's ITEMS", "1 -2", Hand.core(c, 1));
        due.is("take", 1, c.take());
        due.is("the RECORD", " -1 2", Hand.proof(c));
        due.is("check", 1, c.check());
        ClauseCourt d = Hand.withNames(2);
        Hand.clause(d, 2);
        d.assume(1);
        d.assume(-2);
        due.is("FALSE at LEVEL 0", 0, d.solve(9));
        due.is("CORE's ROWS", "0", Hand.core(d, 0));
        due.is("CORE's ITEMS", "-2", Hand.core(d, 1));
        due.is("solved", "0 2 1 1 0 0 0 0 1 1", Hand.solved(d));
    }

    private static void noByContraries() {
        ClauseCourt c = Hand.withNames(2);
        c.assume(-1);
        c.assume(2);
        c.assume(1);
        due.is("solve", 0, c.solve(9));
        due.is("CORE's ROWS", "", Hand.core(c, 0));
        due.is("CORE's ITEMS", "-1 1", Hand.core(c, 1));
        due.is("take", 1, c.take());
        due.is("the RECORD", " 1 -1", Hand.proof(c));
        due.is("check", 1, c.check());
        due.is("least", 0, c.least(9));
        due.is("shrink, neither can go", 2, c.shrink(99));
    }

    private static void assumedInOrder() {
        ClauseCourt c = Hand.withNames(3);
        Hand.clause(c, -3, 2);
        c.weight(1, 1000);
        c.assume(3);
        c.assume(2);
        due.is("solve", 1, c.solve(3));
        due.is("3 DECIDED, 2 FORCED, 1 DECIDED", "1 3 1 2 0 0 0 0 0 2", Hand.solved(c));
        due.is("solve with fewer", SPENT, c.solve(2));
        c.free();
        c.assume(-2);
        due.is("solve", 1, c.solve(3));
        due.is("truth(3)", 0, c.truth(3));
        due.is("truth(2)", 0, c.truth(2));
    }

    private static void beginningAnew() {
        ClauseCourt c = twoRows();
        c.begin(1);
        c.solve(9);
        due.is("at once", "1 5 2 2 1 1 0 1 1 1", Hand.solved(c));
        c.begin(2);
        c.solve(9);
        due.is("not yet", 0, c.solved(5));
        ClauseCourt d = deepQuarrel();
        d.solve(9);
        due.is("the LEVEL behind it", "1 3 1 3 2", Hand.quarrel(d));
        due.is("the NEW ROW", "3 2", Hand.line(d, 2000));
        d.begin(1);
        d.solve(9);
        due.is("the LEVEL behind BEGINNING ANEW", "1 3 0 3 2", Hand.quarrel(d));
    }

    /** -2 by its weight, -1, -3 are DECIDED; then ROW 0 forces -4 and ROW 1 is the QUARREL: the NEW ROW is 3 2, LEVEL 1. */
    private static ClauseCourt deepQuarrel() {
        ClauseCourt c = Hand.withNames(4);
        Hand.clause(c, 2, 3, -4);
        Hand.clause(c, 2, 3, 4);
        c.weight(2, 9);
        c.weight(1, 8);
        return c;
    }

    /** What went is told by figures, and stays in the RECORD. */
    private static void forgetting() {
        ClauseCourt c = pigeons(5, 4);
        due.is("without", 0, c.solve(5000));
        due.is("none went", 0, c.solved(6));
        due.is("all are there", c.solved(4), c.solved(7));
        int learnt = c.solved(4);
        c.forget(800);
        c.solve(5000);
        due.is("not so many are there", learnt, c.solved(4));
        c.forget(2);
        due.is("with forget(2)", 0, c.solve(5000));
        due.is("some went", 1, c.solved(6) > 0 ? 1 : 0);
        due.is("LEARNT ones", c.solved(4), c.solved(6) + c.solved(7));
        due.is("the RECORD keeps all", c.solved(4) + 1, c.solved(8));
        for (int k = 0; k < c.solved(4); k++) {
            due.is("they are told", 1, c.line(2000 + k, -1) > 0 ? 1 : 0);
        }
        ClauseCourt d = pigeons(5, 4);
        d.forget(2);
        d.solve(5000);
        String solved = Hand.solved(d);
        due.is("USE is that of this SOLVING", solved, Hand.solved(c));
        long weighs = c.weighs(1);
        due.is("again", 0, c.solve(5000));
        due.is("nothing of the one before counts", solved, Hand.solved(c));
        due.is("nor of its weights", weighs, c.weighs(1));
        due.is("take", c.solved(8), c.take());
        due.is("check", 1, c.check());
    }

    private static ClauseCourt pigeons(int birds, int holes) {
        ClauseCourt c = Hand.withNames(birds * holes);
        for (int b = 0; b < birds; b++) {
            int[] row = new int[holes];
            for (int h = 0; h < holes; h++) {
                row[h] = b * holes + h + 1;
            }
            Hand.clause(c, row);
        }
        for (int h = 0; h < holes; h++) {
            int[] row = new int[birds];
            for (int b = 0; b < birds; b++) {
                row[b] = b * holes + h + 1;
            }
            Hand.paper(c, 0, row);
            c.atMost(0, 1);
        }
        return c;
    }

    private static int ender(ClauseCourt c, int which) {
        switch (which) {
            case 0:
                return c.names(0);
            case 1:
                return c.clause(39);
            case 2:
                return c.atMost(39, 12);
            case 3:
                return c.group(39, 1);
            case 4:
                return c.parity(39, true);
            case 5:
                return Hand.told(c, "x1");
            case 6:
                return c.assume(1);
            case 7:
                return c.free();
            case 8:
                return c.weight(1, 0);
            case 9:
                return c.begin(0);
            case 10:
                return c.forget(0);
            default:
                return c.next(1);
        }
    }

    private static void whatEndsGoOn() {
        for (int which = 0; which <= 11; which++) {
            ClauseCourt c = twoRows();
            c.solve(2);
            ender(c, which);
            due.is("goOn behind ender " + which, STATE, c.goOn(100));
            if (which < 11) {
                due.is("solved stays", SPENT, c.solved(0));
                due.is("STEPS stay", 2, c.solved(1));
            }
        }
    }

    private static void whatLeavesGoOn() {
        ClauseCourt c = twoRows();
        c.solve(2);
        c.names(301);
        c.row(1, 12);
        c.clause(1);
        c.clause(2);
        Hand.told(c, "x");
        Hand.told(c, "x3");
        c.assume(3);
        c.weight(0, 0);
        c.begin(-1);
        c.forget(-1);
        c.solve(0);
        c.next(0);
        c.counted(1, true);
        c.unbar();
        c.count(9, 100);
        c.shrink(9);
        c.least(9);
        c.check();
        c.forced();
        c.print(0);
        Hand.claim(c, 1);
        c.take();
        due.is("goOn behind all these", 1, c.goOn(3));
        due.is("solved", "1 5 2 2 1 0 0 1 1 1", Hand.solved(c));
    }

    private static void truths() {
        ClauseCourt c = twoRows();
        due.is("truth ahead of SOLVING", STATE, c.truth(1));
        due.is("truth(0)", BAD, c.truth(0));
        due.is("truth(3)", BAD, c.truth(3));
        due.is("truth(-1)", BAD, c.truth(-1));
        c.solve(5);
        c.names(1);
        due.is("truth of a NAME that came since", NONE, c.truth(3));
        due.is("status", BAD, c.status());
        due.is("truth(1)", 1, c.truth(1));
        c.assume(-1);
        due.is("solve", 0, c.solve(100));
        due.is("truth behind NO", STATE, c.truth(1));
    }

    private static void figures() {
        ClauseCourt c = new ClauseCourt();
        due.is("solved(-1)", BAD, c.solved(-1));
        due.is("solved(10)", BAD, c.solved(10));
        due.is("quarrel(-1)", BAD, c.quarrel(-1));
        due.is("quarrel(5)", BAD, c.quarrel(5));
        due.is("status", BAD, c.status());
        due.is("quarrel(0)", NONE, c.quarrel(0));
        due.is("status", BAD, c.status());
    }

    private static void recordFull() {
        ClauseCourt c = pigeons(8, 7);
        int said = c.solve(5000);
        while (said == SPENT) {
            said = c.goOn(5000);
        }
        due.is("the RECORD has no room", FULL, said);
        due.is("solved(0)", FULL, c.solved(0));
        due.is("status", 0, c.status());
        due.is("goOn", STATE, c.goOn(5000));
        due.is("core", STATE, c.core(0));
        due.is("take", STATE, c.take());
    }

    /** As noAtLevelNone(), with the last NAMES that can be. */
    private static void lastNames() {
        ClauseCourt c = Hand.withNames(300);
        Hand.clause(c, 299, 300);
        Hand.clause(c, 299, -300);
        Hand.clause(c, -299, 300);
        Hand.clause(c, -299, -300);
        c.weight(299, 1);
        due.is("solve", 0, c.solve(5));
        due.is("solved", "0 5 3 1 1 0 0 1 2 1", Hand.solved(c));
        due.is("quarrel", "3 0 0 0 0", Hand.quarrel(c));
        due.is("CORE's ROWS", "0 1 2 3", Hand.core(c, 0));
        due.is("weighs(299)", 65, c.weighs(299));
        due.is("weighs(300)", 64, c.weighs(300));
        due.is("the NEW ROW", "299", Hand.line(c, 2000));
        due.is("shrink", 4, c.shrink(5000));
        c.assume(300);
        c.free();
        c.counted(300, true);
        due.is("next", 0, c.next(100));
    }

    /** The QUARREL can be LEARNT itself: then it is told by its own number. */
    private static void quarrelWithLearnt() {
        boolean found = false;
        int said = SPENT;
        for (int steps = 1; said == SPENT; steps++) {
            ClauseCourt c = pigeons(5, 4);
            said = c.solve(steps);
            int row = c.quarrel(0);
            found = found || row >= 2000;
            due.is("it was there", 1, row < 2000 + c.solved(4) ? 1 : 0);
            due.is("none BARRED", 0, row >= 1000 && row < 2000 ? 1 : 0);
        }
        due.is("one was LEARNT", 1, found ? 1 : 0);
    }
}
