/** Promises 36 to 45: the CORE, and PROOF. */
public final class CoreAndProofTest {
    private static final int BAD = ClauseCourt.BAD;
    private static final int STATE = ClauseCourt.STATE;
    private static final int SPENT = ClauseCourt.SPENT;
    private static final int NONE = ClauseCourt.NONE;
    private static final Due due = new Due("CoreAndProofTest");

    public static void main(String[] args) {
        coreAndItsStates();
        coreByNext();
        shrinks();
        shrinksItems();
        shrinksSpent();
        leastSets();
        leastRefused();
        takes();
        claimsAndStrikes();
        checks();
        checksTheEnd();
        due.end();
    }

    /** ROWS 0 to 3 can't all be kept; 4 is of no use. */
    private static ClauseCourt square() {
        ClauseCourt c = Hand.withNames(3);
        Hand.clause(c, 1, 2);
        Hand.clause(c, 1, -2);
        Hand.clause(c, -1, 2);
        Hand.clause(c, -1, -2);
        Hand.clause(c, 3, 1);
        return c;
    }

    private static void coreAndItsStates() {
        ClauseCourt c = square();
        due.is("core(-1)", BAD, c.core(-1));
        due.is("core(2)", BAD, c.core(2));
        due.is("core ahead of SOLVING", STATE, c.core(0));
        due.is("coreAt ahead of SOLVING", STATE, c.coreAt(0, 0));
        due.is("coreAt(2, 0)", BAD, c.coreAt(2, 0));
        due.is("coreAt(-1, 0)", BAD, c.coreAt(-1, 0));
        due.is("shrink ahead of SOLVING", STATE, c.shrink(10));
        due.is("least ahead of SOLVING", STATE, c.least(10));
        due.is("take ahead of SOLVING", STATE, c.take());
        due.is("solve", 0, c.solve(100));
        due.is("core(0)", 4, c.core(0));
        due.is("core(1)", 0, c.core(1));
        due.is("coreAt(0, 3)", 3, c.coreAt(0, 3));
        due.is("coreAt(0, 4)", NONE, c.coreAt(0, 4));
        due.is("coreAt(0, -1)", NONE, c.coreAt(0, -1));
        due.is("coreAt(1, 0)", NONE, c.coreAt(1, 0));
        due.is("status", STATE, c.status());
        due.is("shrink(0)", BAD, c.shrink(0));
        due.is("shrink(5001)", BAD, c.shrink(5001));
        due.is("least(0)", BAD, c.least(0));
        due.is("least(5001)", BAD, c.least(5001));
        c.names(5);
        c.assume(8);
        due.is("the CORE stays, whatever is told", "0 1 2 3", Hand.core(c, 0));
        due.is("solve(1)", SPENT, c.solve(1));
        due.is("core behind SPENT", STATE, c.core(0));
        due.is("shrink(0) behind SPENT", BAD, c.shrink(0));
    }

    private static void coreByNext() {
        ClauseCourt c = square();
        due.is("next", 0, c.next(100));
        due.is("said", 0, c.solved(0));
        due.is("core", STATE, c.core(0));
        due.is("coreAt", STATE, c.coreAt(0, 0));
        due.is("shrink", STATE, c.shrink(9));
        due.is("least", STATE, c.least(9));
        due.is("take", STATE, c.take());
        due.is("quarrel", "3 0 0 0 0", Hand.quarrel(c));
        due.is("solve", 0, c.solve(100));
        due.is("core", 4, c.core(0));
    }

    /** 1 leads by 2 and 3 to 4, which 2 forbids: all ROWS are needed for -1. */
    private static ClauseCourt wide() {
        ClauseCourt c = Hand.withNames(4);
        Hand.clause(c, -1, 2);
        Hand.clause(c, -2, 3);
        Hand.clause(c, -3, -1, 4);
        Hand.clause(c, -4, -2);
        return c;
    }

    /**
     * 1 and 2 are ASSUMED: 1 forces 2 by ROW 0, so 2 is TRUE; 3 by ROW 1, 4 by ROW 2; ROW 3 quarrels. LEARNING at LEVEL 1:
     * the NEW ROW is -2; 2 is then FALSE at LEVEL 0 and -1 is FORCED by ROW 0: NO by 1, the first ASSUMED ITEM.
     */
    private static void shrinks() {
        ClauseCourt c = wide();
        c.assume(1);
        c.assume(2);
        due.is("solve", 0, c.solve(100));
        int rows = c.core(0);
        int items = c.core(1);
        due.is("CORE's ROWS", "0 1 2 3", Hand.core(c, 0));
        due.is("CORE's ITEMS", "1", Hand.core(c, 1));
        due.is("shrink", rows + items, c.shrink(5000));
        ClauseCourt d = idle();
        due.is("solve", 0, d.solve(100));
        due.is("CORE's ROWS", "0 1 2 3 4", Hand.core(d, 0));
        String solved = Hand.solved(d);
        due.is("shrink", 4, d.shrink(5000));
        due.is("CORE's ROWS", "1 2 3 4", Hand.core(d, 0));
        due.is("core(0)", 4, d.core(0));
        due.is("coreAt(0, 4)", NONE, d.coreAt(0, 4));
        due.is("the latest SOLVING is left alone", solved, Hand.solved(d));
        due.is("shrink again", 4, d.shrink(5000));
        ClauseCourt e = idle();
        e.solve(100);
        due.is("least", 4, e.least(5000));
        due.is("CORE's ROWS", "1 2 3 4", Hand.core(e, 0));
        due.is("take is of the RECORD still", d.solved(8), d.take());
    }

    /**
     * -1 DECIDED: ROW 0 forces 2, ROW 2 forces -3, ROW 3 quarrels: the NEW ROW is 1, of ROWS 0, 2, 3. It forces 1, ROW 1 -3, ROW 3
     * -2, and ROW 4 quarrels. But ROWS 1 and 2 ask for -3 whatever 1 is, ROWS 3 and 4 for 3: ROW 0 is idle.
     */
    private static ClauseCourt idle() {
        ClauseCourt c = Hand.withNames(3);
        Hand.clause(c, 2, 1);
        Hand.clause(c, -1, -3);
        Hand.clause(c, -3, 1);
        Hand.clause(c, -2, 3);
        Hand.clause(c, 2, 3);
        return c;
    }

    /** With -2 and 6, ROWS 0 and 6 ask for 4, ROW 1 then for 3, and ROW 4 quarrels: neither 1 nor ROW 5 is needed. */
    private static void shrinksItems() {
        ClauseCourt c = Hand.withNames(6);
        Hand.clause(c, 2, -5, 4);
        Hand.clause(c, 3, -4, 3);
        Hand.clause(c, -5, -4);
        Hand.clause(c, -6, -2);
        Hand.clause(c, -3, -4, -6);
        Hand.clause(c, -1, 4, 3);
        Hand.clause(c, 5, 4);
        c.assume(1);
        c.assume(-2);
        c.assume(6);
        due.is("solve", 0, c.solve(100));
        due.is("CORE's ROWS", "0 1 4 5 6", Hand.core(c, 0));
        due.is("CORE's ITEMS", "1 -2 6", Hand.core(c, 1));
        due.is("shrink", 6, c.shrink(5000));
        due.is("CORE's ROWS", "0 1 4 6", Hand.core(c, 0));
        due.is("CORE's ITEMS", "-2 6", Hand.core(c, 1));
        due.is("coreAt(1, 2)", NONE, c.coreAt(1, 2));
        due.is("about(4)", 3, c.about(4));
    }

    private static void shrinksSpent() {
        ClauseCourt c = square();
        c.solve(100);
        due.is("shrink(1)", SPENT, c.shrink(1));
        due.is("status", 0, c.status());
        due.is("core(0)", 4, c.core(0));
        due.is("shrink", 4, c.shrink(5000));
        ClauseCourt d = idle();
        d.solve(100);
        due.is("enough for ROW 0, not for all", SPENT, d.shrink(7));
        due.is("what went stays away", "1 2 3 4", Hand.core(d, 0));
    }

    private static void leastSets() {
        ClauseCourt c = square();
        c.solve(100);
        due.is("least", 4, c.least(5000));
        due.is("least(1)", SPENT, c.least(1));
        due.is("it stays", "0 1 2 3", Hand.core(c, 0));
        due.is("status", 0, c.status());
        ClauseCourt d = Hand.withNames(1);
        Hand.clause(d, 1);
        Hand.clause(d, -1);
        due.is("solve", 0, d.solve(9));
        due.is("none: 1 STEP, either alone: 1 STEP, both: 1 STEP", SPENT, d.least(3));
        due.is("least(4)", 2, d.least(4));
    }

    private static void leastRefused() {
        ClauseCourt c = Hand.withNames(11);
        Hand.clause(c, 1);
        for (int n = 1; n <= 9; n++) {
            Hand.clause(c, -n, n + 1);
        }
        Hand.clause(c, -10);
        due.is("solve", 0, c.solve(100));
        due.is("CORE's ROWS", 11, c.core(0));
        due.is("more than 10", STATE, c.least(100));
        due.is("least(0)", BAD, c.least(0));
        ClauseCourt d = Hand.withNames(9);
        Hand.clause(d, 1);
        for (int n = 1; n <= 8; n++) {
            Hand.clause(d, -n, n + 1);
        }
        Hand.clause(d, -9);
        due.is("solve", 0, d.solve(100));
        due.is("CORE's ROWS", 10, d.core(0));
        due.is("just 10, but many sets", SPENT, d.least(100));
    }

    private static void takes() {
        ClauseCourt c = square();
        Hand.claim(c, 3);
        c.solve(100);
        due.is("take", 2, c.take());
        due.is("PROOF is the RECORD alone", " 1;", Hand.proof(c));
        due.is("about(6)", 2, c.about(6));
        due.is("proof(1, -1)", 0, c.proof(1, -1));
        due.is("proof(0, 0)", 1, c.proof(0, 0));
        due.is("proof(0, 1)", NONE, c.proof(0, 1));
        due.is("proof(0, -2)", NONE, c.proof(0, -2));
        due.is("proof(2, -1)", NONE, c.proof(2, -1));
        due.is("proof(-1, -1)", NONE, c.proof(-1, -1));
        due.is("check", 1, c.check());
        due.is("refusedAt", NONE, c.refusedAt());
        due.is("strike(0)", 1, c.strike(0));
        due.is("check", 0, c.check());
        due.is("refusedAt", 0, c.refusedAt());
    }

    private static void claimsAndStrikes() {
        ClauseCourt c = Hand.withNames(3);
        due.is("strike(0)", NONE, c.strike(0));
        due.is("strike(-1)", NONE, c.strike(-1));
        due.is("status", 0, c.status());
        due.is("claim", 1, Hand.claim(c, 3, -1, 3, -1, 2));
        due.is("claim", 2, Hand.claim(c));
        due.is("claim", 3, Hand.claim(c, 1, -1));
        due.is("PROOF", " 3 -1 2;; 1 -1", Hand.proof(c));
        due.is("ROWS of the CASE", 0, c.about(2));
        due.is("strike(3)", NONE, c.strike(3));
        due.is("strike(1)", 1, c.strike(1));
        due.is("PROOF", " 3 -1 2; 1 -1", Hand.proof(c));
        due.is("strike(0)", 1, c.strike(0));
        due.is("PROOF", " 1 -1", Hand.proof(c));
        due.is("claim", 2, Hand.claim(c, 2));
        due.is("PROOF", " 1 -1; 2", Hand.proof(c));
        due.is("strike(1)", 1, c.strike(1));
        due.is("strike(0)", 1, c.strike(0));
        due.is("about(6)", 0, c.about(6));
    }

    private static void checks() {
        ClauseCourt c = square();
        due.is("check without ROWS", 0, c.check());
        due.is("refusedAt", 0, c.refusedAt());
        Hand.claim(c, 3, -3);
        due.is("an ITEM and its CONTRARY, but not the end", 0, c.check());
        due.is("refusedAt", 1, c.refusedAt());
        Hand.claim(c, -3);
        due.is("-3 does not FOLLOW", 0, c.check());
        due.is("refusedAt", 1, c.refusedAt());
        c.strike(1);
        Hand.claim(c, 1);
        Hand.claim(c, -3);
        due.is("1 FOLLOWS, and all behind it, but -3 is no end", 0, c.check());
        due.is("refusedAt", 3, c.refusedAt());
        Hand.claim(c);
        due.is("the end", 1, c.check());
        due.is("refusedAt", NONE, c.refusedAt());
        due.is("strike", 1, c.strike(0));
        due.is("refusedAt is of the latest check", NONE, c.refusedAt());
        ClauseCourt d = Hand.withNames(2);
        due.is("refusedAt ahead of check", NONE, d.refusedAt());
        Hand.clause(d, 1, 2);
        Hand.claim(d, 2, 1);
        Hand.claim(d, 1);
        d.assume(-2);
        due.is("what is ASSUMED does not help", 0, d.check());
        due.is("refusedAt", 1, d.refusedAt());
    }

    private static void checksTheEnd() {
        ClauseCourt c = Hand.withNames(3);
        Hand.clause(c, -1, 2);
        Hand.clause(c, -2, 3);
        Hand.claim(c, -1, 3);
        due.is("1 and -3 are not ASSUMED", 0, c.check());
        due.is("refusedAt", 1, c.refusedAt());
        c.assume(1);
        due.is("-3 is not", 0, c.check());
        c.assume(3);
        due.is("nor is it so", 0, c.check());
        c.assume(-3);
        due.is("both are ASSUMED", 1, c.check());
        c.free();
        due.is("none is", 0, c.check());
        due.is("refusedAt", 1, c.refusedAt());
    }
}
