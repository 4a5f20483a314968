import java.util.ArrayList;
import java.util.Arrays;
import java.util.List;
import java.util.Random;
import java.util.function.Supplier;
import java.util.function.ToLongFunction;

/** Promises 36 to 45, sentence by sentence: the CORE, and PROOF. */
public final class CoreEdgesTest {
    private static final int BAD = ClauseCourt.BAD;
    private static final int STATE = ClauseCourt.STATE;
    private static final int FULL = ClauseCourt.FULL;
    private static final int SPENT = ClauseCourt.SPENT;
    private static final int NONE = ClauseCourt.NONE;
    private static final int NOTHING = ClauseCourt.NOTHING;
    private static final int BEYOND = ClauseCourt.BEYOND;
    private static final int MIN = Integer.MIN_VALUE;
    private static final int MAX = Integer.MAX_VALUE;
    private static final int[] NO_STEPS = {0, -1, 5001, MIN, MAX};
    private static final Edge edge = new Edge("CoreEdgesTest");

    /** ROWS and ASSUMED ITEMS that are seldom drawn: two sets of like many ROWS, one of more with a lesser number, ITEMS that go. */
    private static final String[][] CHOSEN = {
        {"-4 1, 3 1, -1 3 -4, -3 -4, -4 1, -4 3, 2 -4 1, 2, -4 4, 4 3, -4 2 3, 4 -2 -4, -3 4, 4 -4", ""},
        {"3 2 -2, 1 4, 4 -1 3, 4 1, 3 1, 2 -2, -3 -4, -4 3, 3 1, -3 4 -2, 1 4", "2"},
        {"5 1, -2 -3 2, 4 1, -5 3 -1, -2 -4 -5, 3 -2, -5 2, -5 3, 5 -1, -1 4, -5 -4, 5 1, 4 3 5, 2 1", ""},
        {"1 3, 1 4, 2 -3 -1, -3 1 -4, -4 -3 4, 4 -2, 2 3 1, 2 -1, 4 -1, 3 -1 -4, -3 -4, 2 4", "-3"},
        {"3 1, 5 2, -4 2 1, 2 4 -6, -3 -5, -2 1 -3, -2 1, -2 3, -6 5 -3, -6 -1 2, 4 -1, -3 -5", "4 6"},
        {"2 -5 4, 3 -4, -5 -4, -6 -2, -3 -4 -6, -1 4 3, 5 4", "1 -2 6"},
    };

    /** How often something went, or a set was first for each reason: without such cases the test would tell nothing. */
    private static int rowsWent;
    private static int itemsWent;
    private static int ties;
    private static int lesserButMore;

    public static void main(String[] args) {
        numbersRefused();
        statesRefused();
        fullIsNoNo();
        coresOfNo();
        coresByAssumed();
        coresByContraries();
        coreOfTheLatest();
        coreForgetsTheOneBefore();
        coreOfFarRows();
        coresAt();
        coreStays();
        shrinksByHand();
        shrinkSpent();
        shrinkWithAsMuchTold();
        shrinkBeginsAnewAndForgets();
        leastByHand();
        leastSpent();
        leastOfTen();
        againstTruthTables();
        takes();
        claims();
        claimFull();
        claimBehindFull();
        strikes();
        proofs();
        checks();
        checksAnew();
        checksTheLast();
        refusedAts();
        lastRowByAssumedFull();
        edge.end();
    }

    private static ClauseCourt court(int names, int[]... rows) {
        ClauseCourt c = Hand.withNames(names);
        for (int[] row : rows) {
            Hand.clause(c, row);
        }
        return c;
    }

    private static int[] row(int... items) {
        return items;
    }

    private static ClauseCourt solved(ClauseCourt c) {
        c.solve(5000);
        return c;
    }

    private static void numbersRefused() {
        for (int what : new int[] {-1, 2, MIN, MAX}) {
            edge.of("36", "BAD; STATE");
            edge.refusedAnywhere("core(" + what + ")", BAD, c -> c.core(what));
            edge.of("37", "As core(); NONE");
            edge.refusedAnywhere("coreAt(" + what + ", 0)", BAD, c -> c.coreAt(what, 0));
            edge.refusedAnywhere("coreAt(" + what + ", -1)", BAD, c -> c.coreAt(what, -1));
        }
        for (int steps : NO_STEPS) {
            edge.of("38", "BAD: not 1 .. 5000; STATE: as core()");
            edge.refusedAnywhere("shrink(" + steps + ")", BAD, c -> c.shrink(steps));
            edge.of("39", "BAD; STATE: as core(), also with more than 10 ROWS");
            edge.refusedAnywhere("least(" + steps + ")", BAD, c -> c.least(steps));
            edge.refused("BAD ahead of STATE: least(" + steps + ")", BAD, () -> solved(chain(11)), c -> c.least(steps));
        }
    }

    private static void refusedState(String promise, ToLongFunction<ClauseCourt> call) {
        edge.of(promise, "STATE: the latest SOLVING did not say NO, or was by next()");
        edge.refused("ahead of SOLVING", STATE, ClauseCourt::new, call);
        edge.refused("SPENT", STATE, Scenes::spent, call);
        edge.refused("YES", STATE, Scenes::yes, call);
        edge.refused("YES of next()", STATE, Scenes::byNext, call);
        edge.refused("NO of next()", STATE, Scenes::lostByNext, call);
        edge.refused("SPENT of next()", STATE, Scenes::spentByNext, call);
        edge.refused("next() behind NO", STATE, () -> {
            ClauseCourt c = Scenes.lost();
            c.next(5000);
            return c;
        }, call);
        edge.refused("SPENT behind NO", STATE, () -> {
            ClauseCourt c = Scenes.lost();
            c.solve(1);
            return c;
        }, call);
    }

    private static void statesRefused() {
        refusedState("36", c -> c.core(0));
        refusedState("36", c -> c.core(1));
        refusedState("37", c -> c.coreAt(0, 0));
        refusedState("37", c -> c.coreAt(1, -1));
        refusedState("38", c -> c.shrink(5000));
        refusedState("39", c -> c.least(5000));
        refusedState("40", c -> c.take());
    }

    private static void fullIsNoNo() {
        edge.of("36", "STATE: the latest SOLVING did not say NO");
        ClauseCourt c = Scenes.full();
        long digest = c.digest();
        edge.is("core() behind FULL", STATE, c.core(0));
        edge.is("coreAt() behind FULL", STATE, c.coreAt(0, 0));
        edge.is("shrink() behind FULL", STATE, c.shrink(1));
        edge.is("least() behind FULL", STATE, c.least(1));
        edge.is("take() behind FULL", STATE, c.take());
        edge.is("status()", STATE, c.status());
        edge.is("about(6)", 0, c.about(6));
        edge.is("digest()", digest, c.digest());
    }

    // ---- what the CORE is

    private static void core(String what, ClauseCourt c, String rows, String items) {
        edge.is(what, 0, c.solve(5000));
        edge.is("ROWS of the CORE, " + what, rows, Hand.core(c, 0));
        edge.is("ITEMS of the CORE, " + what, items, Hand.core(c, 1));
    }

    private static void coresOfNo() {
        edge.of("36", "NO by b): SOURCES of the QUARREL and of the NAMES in it; ASSUMED ITEMS of the CORE: none");
        core("a ROW without ITEMS", court(2, row(1), row(), row(-1), row()), "1", "");
        core("two ROWS of one ITEM", court(2, row(2), row(1), row(-1)), "1 2", "");
        core("a chain", court(4, row(4), row(-1, 2), row(1), row(-2, 3), row(-3, -1)), "1 2 3 4", "");
        ClauseCourt c = court(2, row(1), row(-1));
        c.assume(2);
        c.assume(1);
        core("though ITEMS are ASSUMED", c, "0 1", "");
        core("LEARNT ROWS bring theirs", court(3, row(3, 1), row(1, 2), row(1, -2), row(-1, 2), row(-1, -2)), "1 2 3 4", "");
    }

    private static void coresByAssumed() {
        edge.of("36", "NO by d): a is of the CORE; each marked ITEM of a LEVEL above 0: DECIDED: of the CORE, else its REASON");
        ClauseCourt c = court(5, row(5), row(-1, 2, -5), row(-3, 4));
        c.assume(3);
        c.assume(1);
        c.assume(-2);
        core("3 is not of it, ROW 0 of LEVEL 0 is", c, "0 1", "1 -2");
        ClauseCourt d = court(2, row(2));
        d.assume(1);
        d.assume(-2);
        core("FALSE at LEVEL 0", d, "0", "-2");
        ClauseCourt e = court(3, row(-1, 3), row(-2, -3));
        e.assume(2);
        e.assume(1);
        core("in the order in which they were ASSUMED", e, "0 1", "2 1");
        edge.is("take()", 1, e.take());
        edge.is("the RECORD's ROW of their CONTRARIES", " -2 -1", Hand.proof(e));
        ClauseCourt f = court(4, row(-1, 2), row(-2, 3), row(-3, 4));
        f.assume(1);
        f.assume(2);
        f.assume(-4);
        core("2 was FORCED, so it is not of it", f, "0 1 2", "1 -4");
    }

    private static void coresByContraries() {
        edge.of("36", "a being the ITEM: a is of the CORE [and its CONTRARY, if that was DECIDED]");
        ClauseCourt c = court(3, row(1, 2));
        c.assume(3);
        c.assume(-1);
        c.assume(1);
        core("an ITEM and its CONTRARY", c, "", "-1 1");
        edge.is("core(0)", 0, c.core(0));
        edge.is("least() of no ROWS", 0, c.least(5000));
        edge.is("shrink()", 2, c.shrink(5000));
        edge.is("take()", 1, c.take());
        edge.is("the RECORD's ROW", " 1 -1", Hand.proof(c));
    }

    private static void coreOfTheLatest() {
        edge.of("36", "Of the CORE [of the latest SOLVING]");
        ClauseCourt c = court(3, row(-1, 2), row(-2, 3), row(-3));
        c.assume(1);
        core("the first NO", c, "0 1 2", "1");
        c.free();
        c.assume(2);
        c.assume(3);
        core("the next NO", c, "1 2", "2");
        Hand.clause(c, 3);
        core("the third", c, "2 3", "");
    }

    private static void coreForgetsTheOneBefore() {
        edge.of("36", "SOURCES [of one SOLVING alone]");
        ClauseCourt c = court(2, row(1), row(-1));
        core("two ROWS", c, "0 1", "");
        Hand.clause(c);
        core("a ROW without ITEMS came since", c, "2", "");
        ClauseCourt d = court(2, row(1, 2), row(1, -2));
        d.assume(-1);
        core("1 is LEARNT", d, "0 1", "-1");
        Hand.clause(d, 1);
        core("1 is FORCED by a ROW that came since", d, "2", "-1");
    }

    private static void idle(ClauseCourt c, int parities, int clauses) {
        for (int i = 0; i < parities; i++) {
            c.parity(0, true);
        }
        for (int i = 0; i < clauses; i++) {
            c.clause(1);
        }
    }

    /** A chain whose ROWS stand far apart among 500; PARITIES of 45 ROWS and CLAUSES of an ITEM and its CONTRARY are between. */
    private static void coreOfFarRows() {
        edge.of("37", "of its ROWS by numbers; ROWS of the CASE (500 at most)");
        ClauseCourt c = Hand.withNames(18);
        Hand.paper(c, 0, 7, 8, 9, 10, 11, 12, 13, 14, 15, 16, 17, 18);
        Hand.paper(c, 1, 7, -7);
        idle(c, 1, 18);
        Hand.clause(c, 1);
        Hand.clause(c, -1, 2);
        Hand.clause(c, -2, 3);
        idle(c, 1, 16);
        Hand.clause(c, -3, 4);
        Hand.clause(c, -4, 5);
        idle(c, 7, 4);
        Hand.clause(c, -5, 6);
        idle(c, 1, 5);
        Hand.clause(c, -6);
        edge.is("about(2)", 500, c.about(2));
        edge.is("about(1)", 60, c.about(1));
        core("a chain", c, "63 64 65 127 128 448 499", "");
        edge.is("shrink()", 7, c.shrink(5000));
    }

    private static void coresAt() {
        edge.of("37", "The k-th (from 0) of the CORE, of its ROWS by numbers, its ITEMS as they were ASSUMED. NONE");
        int[] rows = {4, 7, 11, 14};
        for (int k = 0; k < 4; k++) {
            int one = k;
            edge.leaves("coreAt(0, " + k + ")", rows[k], Scenes::no, c -> c.coreAt(0, one));
        }
        edge.leaves("coreAt(1, 0)", 4, Scenes::no, c -> c.coreAt(1, 0));
        for (int k : new int[] {-1, 4, 500, MIN, MAX}) {
            edge.leaves("coreAt(0, " + k + ")", NONE, Scenes::no, c -> c.coreAt(0, k));
        }
        for (int k : new int[] {-1, 1, 20, MIN, MAX}) {
            edge.leaves("coreAt(1, " + k + ")", NONE, Scenes::no, c -> c.coreAt(1, k));
        }
        edge.leaves("coreAt(1, 0) of none", NONE, Scenes::lost, c -> c.coreAt(1, 0));
    }

    private static void coreStays() {
        edge.of("36", "Of the CORE: what = 0 how many ROWS, 1 how many ITEMS");
        edge.leaves("core(0)", 4, Scenes::no, c -> c.core(0));
        edge.leaves("core(1)", 1, Scenes::no, c -> c.core(1));
        ClauseCourt c = Scenes.no();
        c.names(3);
        c.free();
        Hand.clause(c, 1);
        c.solve(0);
        c.count(3, 100);
        c.check();
        edge.is("ROWS, whatever is told since", "4 7 11 14", Hand.core(c, 0));
        edge.is("ITEMS, whatever is told since", "4", Hand.core(c, 1));
    }

    // ---- shrink()

    private static void shrinksByHand() {
        edge.of("38", "if SOLVING with all the others that are left says NO, it goes: how many are left");
        ClauseCourt c = solved(idle());
        edge.is("the CORE", "0 1 2 3 4", Hand.core(c, 0));
        edge.is("shrink()", 4, c.shrink(5000));
        edge.is("ROW 0 went", "1 2 3 4", Hand.core(c, 0));
        edge.is("core(0)", 4, c.core(0));
        edge.is("shrink() once more", 4, c.shrink(5000));
        edge.is("the RECORD stays as it is", c.solved(8), c.take());
        edge.is("a CORE of one ROW", 1, solved(court(1, row())).shrink(1));
        edge.is("of one ROW and one ITEM", 2, assumed(court(1, row(-1)), 1).shrink(5000));
        edge.of("38", "(no other ROW, none else ASSUMED)");
        ClauseCourt d = court(3, row(-1, 2), row(-2, -3), row(-3));
        d.assume(1);
        d.assume(3);
        edge.is("solve", 0, d.solve(5000));
        edge.is("ROWS", "2", Hand.core(d, 0));
        edge.is("ITEMS", "3", Hand.core(d, 1));
        edge.is("neither goes, though other ROWS and 1 would say NO without ROW 2", 2, d.shrink(5000));
        edge.of("38", "Each of the CORE, ROWS by numbers, then ITEMS as ASSUMED");
        ClauseCourt e = court(6, row(2, -5, 4), row(3, -4), row(-5, -4), row(-6, -2), row(-3, -4, -6), row(-1, 4, 3), row(5, 4));
        e.assume(1);
        e.assume(-2);
        e.assume(6);
        edge.is("solve", 0, e.solve(5000));
        edge.is("ROWS", "0 1 4 5 6", Hand.core(e, 0));
        edge.is("ITEMS", "1 -2 6", Hand.core(e, 1));
        edge.is("ROW 5 and then 1 go", 6, e.shrink(5000));
        edge.is("ROWS", "0 1 4 6", Hand.core(e, 0));
        edge.is("ITEMS", "-2 6", Hand.core(e, 1));
        edge.is("coreAt(1, 2)", NONE, e.coreAt(1, 2));
    }

    private static ClauseCourt assumed(ClauseCourt c, int v) {
        c.assume(v);
        return solved(c);
    }

    /** ROWS 1 and 2 ask for -3 whatever 1 is, ROWS 3 and 4 for 3; but SOLVING takes ROW 0, too. */
    private static ClauseCourt idle() {
        return court(3, row(2, 1), row(-1, -3), row(-3, 1), row(-2, 3), row(2, 3));
    }

    private static void shrinkSpent() {
        edge.of("38", "SPENT: so many STEPS are not enough for all (what went stays away)");
        ClauseCourt c = solved(court(1, row(1), row(-1)));
        edge.is("each SOLVING takes 1 STEP", SPENT, c.shrink(1));
        edge.is("status() is not told of it", 0, c.status());
        edge.is("core(0)", 2, c.core(0));
        edge.is("shrink(2)", 2, c.shrink(2));
        int enough = 1;
        while (solved(idle()).shrink(enough) == SPENT) {
            enough++;
        }
        boolean away = false;
        for (int steps = 1; steps < enough; steps++) {
            ClauseCourt d = solved(idle());
            edge.is("shrink(" + steps + ")", SPENT, d.shrink(steps));
            away = away || d.core(0) == 4;
            edge.is("what went is ROW 0, and stays away", away ? "1 2 3 4" : "0 1 2 3 4", Hand.core(d, 0));
        }
        edge.is("it went ahead of the end", 1, away ? 1 : 0);
        edge.is("just enough", 4, solved(idle()).shrink(enough));
    }

    private static void shrinkWithAsMuchTold() {
        edge.of("38", "what shrink(), least(), count() do is beside it, with as much told");
        ClauseCourt c = solved(court(1, row(1), row(-1)));
        c.names(3);
        edge.is("each SOLVING has 3 NAMES more to DECIDE", SPENT, c.shrink(7));
        edge.is("shrink(8)", 2, c.shrink(8));
        edge.is("least(): none 4, either alone 4, both 1", SPENT, c.least(12));
        edge.is("least(13)", 2, c.least(13));
    }

    /** BEGINNING ANEW and FORGETTING go on in each SOLVING: compared with the document's second writing. */
    private static void shrinkBeginsAnewAndForgets() {
        edge.of("38", "with as much told [by begin() and forget(), too]");
        int went = 0;
        for (int i = 1; i <= 8; i++) {
            ClauseCourt c = Scenes.pigeons(5, 4);
            PlainCourt plain = Scenes.plainPigeons(5, 4);
            c.row(0, 3);
            plain.row(0, 3);
            int[] items = {i, i + 6, -i - 11};
            for (int k = 0; k < 3; k++) {
                c.put(0, k, items[k]);
                plain.put(0, k, items[k]);
            }
            edge.is("parity", plain.parity(0, i % 2 == 0), c.parity(0, i % 2 == 0));
            for (int v : new int[] {1, -2, i % 3 == 0 ? 6 : -12}) {
                c.assume(v);
                plain.assume(v);
            }
            edge.is("begin", plain.begin(i % 3), c.begin(i % 3));
            edge.is("forget", plain.forget(1 + i % 4), c.forget(1 + i % 4));
            edge.is("solve", plain.solve(5000), c.solve(5000));
            int before = c.core(0) + c.core(1);
            edge.is("shrink() " + i, plain.shrink(5000), c.shrink(5000));
            edge.is("core(0)", plain.core(0), c.core(0));
            edge.is("core(1)", plain.core(1), c.core(1));
            went += before - c.core(0) - c.core(1);
        }
        edge.is("something went", 1, went > 0 ? 1 : 0);
    }

    // ---- least()

    private static void leastByHand() {
        edge.of("39", "Sets of the CORE's ROWS, those of fewer ROWS first: the first that says NO: the CORE's ROWS are these");
        ClauseCourt c = solved(idle());
        edge.is("least()", 4, c.least(5000));
        edge.is("ROWS", "1 2 3 4", Hand.core(c, 0));
        edge.is("core(0)", 4, c.core(0));
        edge.is("coreAt(0, 4)", NONE, c.coreAt(0, 4));
        edge.is("least() once more", 4, c.least(5000));
        edge.is("a ROW without ITEMS", 1, solved(court(2, row(1), row())).least(5000));
        edge.of("39", "with the CORE's ITEMS ASSUMED");
        ClauseCourt d = court(3, row(-1, 2), row(-2, 3));
        d.assume(1);
        d.assume(-3);
        edge.is("solve", 0, d.solve(5000));
        edge.is("least()", 2, d.least(5000));
        edge.is("ITEMS stay", "1 -3", Hand.core(d, 1));
    }

    private static void leastSpent() {
        edge.of("39", "SPENT: it stays");
        ClauseCourt c = solved(court(1, row(1), row(-1)));
        edge.is("none, either alone, both: 1 STEP each", SPENT, c.least(3));
        edge.is("status() is not told of it", 0, c.status());
        edge.is("it stays", "0 1", Hand.core(c, 0));
        edge.is("least(4)", 2, c.least(4));
        ClauseCourt d = solved(idle());
        edge.is("least(20)", SPENT, d.least(20));
        edge.is("it stays", "0 1 2 3 4", Hand.core(d, 0));
    }

    private static ClauseCourt chain(int rows) {
        ClauseCourt c = court(rows - 1, row(1));
        for (int n = 1; n <= rows - 2; n++) {
            Hand.clause(c, -n, n + 1);
        }
        Hand.clause(c, 1 - rows);
        return c;
    }

    private static void leastOfTen() {
        edge.of("39", "STATE: also with more than 10 ROWS");
        edge.is("ROWS", 11, solved(chain(11)).core(0));
        edge.refused("least() of 11", STATE, () -> solved(chain(11)), c -> c.least(5000));
        edge.is("ROWS", 10, solved(chain(10)).core(0));
        edge.is("least() of 10", SPENT, solved(chain(10)).least(1));
        ClauseCourt ten = court(5, row(2, -4, -5), row(4, -5, -3), row(3, -5, 3), row(4, 5, 5), row(3, -2, -1), row(-5, 4, -1),
                row(-3, -4), row(-5, -3), row(1, -3), row(-2, 1), row(2, 5, 2));
        edge.is("solve", 0, ten.solve(5000));
        edge.is("ROWS", 10, ten.core(0));
        edge.is("least()", 7, ten.least(5000));
        edge.is("the first that can't be", "1 2 3 4 6 9 10", Hand.core(ten, 0));
        ClauseCourt eleven = court(5, row(2, 1, -4), row(-2, -1), row(5, 4), row(5, -1, -4), row(3, 2, 4), row(-2, -3, 1),
                row(-3, -1), row(-5, -4), row(-5, 1, 3), row(3, 5), row(-5, -3));
        eleven.solve(5000);
        edge.is("ROWS", 11, eleven.core(0));
        edge.is("least()", STATE, eleven.least(5000));
        edge.is("shrink() has no such bound", 1, eleven.shrink(5000) > 0 ? 1 : 0);
        edge.is("ROWS behind it", 10, eleven.core(0));
        edge.is("least() is not refused then", SPENT, eleven.least(1));
    }

    /** Small CASEs whose every TRUTH is tried: what shrink() and least() leave, by their own words. */
    private static void againstTruthTables() {
        for (int seed = 0; seed < 500; seed++) {
            Random random = new Random(seed);
            int[][] rows = new int[10 + random.nextInt(16)][];
            for (int i = 0; i < rows.length; i++) {
                rows[i] = drawn(random, 2 + random.nextInt(2));
            }
            asTold(rows, drawn(random, random.nextInt(6)));
        }
        for (String[] one : CHOSEN) {
            String[] texts = one[0].split(", ");
            int[][] rows = new int[texts.length][];
            for (int i = 0; i < rows.length; i++) {
                rows[i] = items(texts[i]);
            }
            asTold(rows, items(one[1]));
        }
        edge.is("ROWS went", 1, rowsWent > 0 ? 1 : 0);
        edge.is("ITEMS went", 1, itemsWent > 0 ? 1 : 0);
        edge.is("sets of like many ROWS", 1, ties > 0 ? 1 : 0);
        edge.is("sets of more ROWS with a lesser number", 1, lesserButMore > 0 ? 1 : 0);
    }

    private static int[] items(String text) {
        return text.isEmpty() ? new int[0] : Arrays.stream(text.split(" ")).mapToInt(Integer::parseInt).toArray();
    }

    private static int[] drawn(Random random, int size) {
        int[] items = new int[size];
        for (int k = 0; k < size; k++) {
            items[k] = (1 + random.nextInt(6)) * (random.nextBoolean() ? 1 : -1);
        }
        return items;
    }

    private static void asTold(int[][] rows, int[] wanted) {
        Supplier<ClauseCourt> make = () -> {
            ClauseCourt c = court(6, rows);
            Arrays.stream(wanted).forEach(c::assume);
            return solved(c);
        };
        if (make.get().solved(0) == 0) {
            shrinksAsTold(make.get(), Arrays.asList(rows));
            leastAsTold(make.get(), Arrays.asList(rows));
        }
    }

    private static List<Integer> core(ClauseCourt c, int what) {
        List<Integer> all = new ArrayList<>();
        for (int k = 0; k < c.core(what); k++) {
            all.add(c.coreAt(what, k));
        }
        return all;
    }

    private static boolean canBe(List<int[]> rows, List<Integer> numbers, List<Integer> items) {
        for (int truths = 0; truths < 64; truths++) {
            boolean kept = true;
            for (int number : numbers) {
                int all = truths;
                kept = kept && Arrays.stream(rows.get(number)).anyMatch(v -> isTrue(all, v));
            }
            for (int v : items) {
                kept = kept && isTrue(truths, v);
            }
            if (kept) {
                return true;
            }
        }
        return false;
    }

    private static boolean isTrue(int truths, int v) {
        return (truths >> Math.abs(v) - 1 & 1) == (v > 0 ? 1 : 0);
    }

    private static void shrinksAsTold(ClauseCourt c, List<int[]> rows) {
        edge.of("38", "Each of the CORE, ROWS by numbers, then ITEMS as ASSUMED");
        List<Integer> numbers = core(c, 0);
        List<Integer> items = core(c, 1);
        rowsWent += numbers.size();
        itemsWent += items.size();
        for (Integer number : core(c, 0)) {
            List<Integer> others = new ArrayList<>(numbers);
            others.remove(number);
            numbers = canBe(rows, others, items) ? numbers : others;
        }
        for (Integer item : core(c, 1)) {
            List<Integer> others = new ArrayList<>(items);
            others.remove(item);
            items = canBe(rows, numbers, others) ? items : others;
        }
        edge.is("shrink()", numbers.size() + items.size(), c.shrink(5000));
        edge.is("ROWS", numbers.toString(), core(c, 0).toString());
        edge.is("ITEMS", items.toString(), core(c, 1).toString());
        rowsWent -= numbers.size();
        itemsWent -= items.size();
    }

    private static void leastAsTold(ClauseCourt c, List<int[]> rows) {
        edge.of("39", "of like many those with the lesser number (2 to the k for the k-th ROW, added)");
        List<Integer> numbers = core(c, 0);
        List<Integer> items = core(c, 1);
        if (numbers.size() > 10) {
            edge.is("least() of more than 10", STATE, c.least(5000));
            return;
        }
        List<Integer> first = numbers;
        int firstSet = -1;
        int like = 0;
        int lesser = 0;
        for (int set = 0; set < 1 << numbers.size(); set++) {
            List<Integer> some = new ArrayList<>();
            for (int k = 0; k < numbers.size(); k++) {
                if ((set >> k & 1) == 1) {
                    some.add(numbers.get(k));
                }
            }
            if (canBe(rows, some, items)) {
                continue;
            }
            like = firstSet >= 0 && some.size() == first.size() ? like + 1 : like;
            if (firstSet < 0 || some.size() < first.size()) {
                lesser += firstSet >= 0 ? 1 : 0;
                first = some;
                firstSet = set;
                like = 0;
            }
        }
        int said = c.least(5000);
        edge.is("least()", said == SPENT ? SPENT : first.size(), said);
        edge.is("ROWS", (said == SPENT ? numbers : first).toString(), core(c, 0).toString());
        edge.is("ITEMS", items.toString(), core(c, 1).toString());
        ties += said == SPENT ? 0 : like;
        lesserButMore += said == SPENT ? 0 : lesser;
    }

    // ---- PROOF

    private static void takes() {
        edge.of("40", "PROOF is the RECORD: how many ROWS");
        ClauseCourt c = Scenes.no();
        edge.is("about(6)", 2, c.about(6));
        edge.is("take()", 2, c.take());
        edge.is("what was claimed is gone", " -4; -4", Hand.proof(c));
        edge.is("check()", 1, c.check());
        ClauseCourt d = solved(court(1, row()));
        edge.is("a ROW without ITEMS alone", 1, d.take());
        edge.is("proof(0, -1)", 0, d.proof(0, -1));
        edge.is("check()", 1, d.check());
        edge.is("take() once more", 1, d.take());
        d.solve(0);
        Hand.clause(d, 1);
        edge.is("take() of the latest SOLVING still", 1, d.take());
    }

    private static void claims() {
        edge.of("41", "A ROW of PAPER, each ITEM once, comes behind PROOF: how many ROWS");
        ClauseCourt c = Hand.withNames(3);
        edge.is("claim()", 1, Hand.claim(c, 3, -1, 3, 2, -1, 3));
        edge.is("claim() without ITEMS", 2, Hand.claim(c));
        edge.is("claim() of an ITEM and its CONTRARY", 3, Hand.claim(c, 1, -1, 1));
        edge.is("PROOF", " 3 -1 2;; 1 -1", Hand.proof(c));
        edge.is("no ROW of the CASE", 0, c.about(2));
        edge.is("no RULE", 0, c.about(1));
        c.drop(39);
        edge.is("PROOF stays", " 3 -1 2;; 1 -1", Hand.proof(c));
    }

    /** NO with a RECORD of 787 ROWS. */
    private static ClauseCourt manyRows() {
        ClauseCourt c = Scenes.pigeons(6, 5);
        c.begin(2);
        c.forget(5);
        return taken(c);
    }

    /** NO with a RECORD of 7,774 ITEMS. */
    private static ClauseCourt manyItems() {
        ClauseCourt c = Scenes.pigeons(7, 6);
        c.forget(100);
        return taken(c);
    }

    private static ClauseCourt taken(ClauseCourt c) {
        int said = c.solve(5000);
        for (int i = 0; i < 9 && said == SPENT; i++) {
            said = c.goOn(5000);
        }
        c.take();
        return c;
    }

    private static ClauseCourt rowsClaimed(int so) {
        ClauseCourt c = manyRows();
        c.row(0, 0);
        while (c.about(6) < so) {
            c.claim(0);
        }
        return c;
    }

    /** ROW 0 of PAPER has as many ITEMS as are left, and one more. */
    private static ClauseCourt itemsClaimed() {
        ClauseCourt c = manyItems();
        Hand.paper(c, 0, 1, 2, 3, 4, 5, 6, 7, 8, 9, 10, 11, 12);
        for (int i = 0; i < 18; i++) {
            c.claim(0);
        }
        c.cut(0, 11);
        return c;
    }

    private static void claimFull() {
        edge.of("41", "PROOF: a list of ROWS (800 at most, 8,000 ITEMS in all); FULL");
        edge.is("the RECORD", 787, manyRows().about(6));
        edge.is("the 800th", 800, rowsClaimed(799).claim(0));
        edge.refused("the 801st", FULL, () -> rowsClaimed(800), c -> c.claim(0));
        ClauseCourt c = rowsClaimed(800);
        edge.is("strike(0)", 1, c.strike(0));
        edge.is("there is room again", 800, c.claim(0));
        edge.is("the RECORD", 689, manyItems().about(6));
        edge.is("ROWS", 707, itemsClaimed().about(6));
        edge.refused("11 ITEMS where 10 are left", FULL, CoreEdgesTest::itemsClaimed, d -> d.claim(0));
        ClauseCourt d = itemsClaimed();
        d.put(0, 10, 1);
        edge.is("10 ITEMS, one of them twice", 708, d.claim(0));
        edge.is("no ITEM more", FULL, Hand.claim(d, 5));
        edge.is("but a ROW without ITEMS", 709, Hand.claim(d));
        edge.is("strike(708)", 1, d.strike(708));
        edge.is("strike(707), of 10 ITEMS", 1, d.strike(707));
        edge.is("there is room again", 708, Hand.claim(d, 1, 2, 3, 4, 5, 6, 7, 8, 9, 10));
    }

    private static void claimBehindFull() {
        edge.of("41", "BAD; NOTHING, BEYOND as clause(); FULL");
        Supplier<ClauseCourt> full = () -> {
            ClauseCourt c = rowsClaimed(800);
            Hand.paper(c, 0, 1, 301);
            Hand.paper(c, 1, 1, 300);
            return c;
        };
        edge.refused("BAD ahead of FULL", BAD, full, c -> c.claim(40));
        edge.refused("NOTHING ahead of FULL", NOTHING, full, c -> c.claim(38));
        edge.refused("BEYOND ahead of FULL", BEYOND, full, c -> c.claim(0));
        edge.refused("NOTHING ahead of FULL", NOTHING, full, c -> c.claim(1));
    }

    private static void strikes() {
        edge.of("42", "The k-th ROW of PROOF (from 0) goes: 1. NONE");
        for (int k : new int[] {-1, 2, 800, MIN, MAX}) {
            edge.noneAnywhere("strike(" + k + ")", c -> c.strike(k));
        }
        edge.leaves("strike(0) of none", NONE, ClauseCourt::new, c -> c.strike(0));
        String[] left = {" 2 3;; -1", " 1;; -1", " 1; 2 3; -1", " 1; 2 3;"};
        for (int k = 0; k < 4; k++) {
            ClauseCourt c = Hand.withNames(3);
            Hand.claim(c, 1);
            Hand.claim(c, 2, 3);
            Hand.claim(c);
            Hand.claim(c, -1);
            edge.is("strike(" + k + ")", 1, c.strike(k));
            edge.is("PROOF", left[k], Hand.proof(c));
            edge.is("about(6)", 3, c.about(6));
            edge.is("proof(3, -1)", NONE, c.proof(3, -1));
        }
    }

    private static void proofs() {
        edge.of("43", "ITEM i of the k-th ROW of PROOF; i = -1: how many. NONE");
        edge.leavesInScenes("proof(0, -1)", 3, c -> c.proof(0, -1));
        edge.leavesInScenes("proof(0, 2)", 3, c -> c.proof(0, 2));
        edge.leavesInScenes("proof(1, 1)", -5, c -> c.proof(1, 1));
        for (int i : new int[] {-2, 3, MIN, MAX}) {
            edge.leavesInScenes("proof(0, " + i + ")", NONE, c -> c.proof(0, i));
        }
        for (int k : new int[] {-1, 2, 800, MIN, MAX}) {
            edge.noneAnywhere("proof(" + k + ", -1)", c -> c.proof(k, -1));
            edge.noneAnywhere("proof(" + k + ", 0)", c -> c.proof(k, 0));
        }
        ClauseCourt c = Hand.withNames(1);
        Hand.claim(c);
        edge.is("a ROW without ITEMS", 0, c.proof(0, -1));
        edge.is("its ITEM 0", NONE, c.proof(0, 0));
    }

    private static void check(String what, int said, int refused, ClauseCourt c) {
        edge.is(what, said, c.check());
        edge.is(what + ": refusedAt()", refused, c.refusedAt());
        edge.is(what + ": status()", 0, c.status());
    }

    private static ClauseCourt claimed(ClauseCourt c, int[]... rows) {
        for (int[] one : rows) {
            Hand.claim(c, one);
        }
        return c;
    }

    private static void checks() {
        edge.of("44", "each ROW of PROOF in order must FOLLOW from the ROWS of the CASE and those of PROOF ahead of it");
        int[][] square = {{1, 2}, {1, -2}, {-1, 2}, {-1, -2}};
        check("1, then a ROW without ITEMS", 1, NONE, claimed(court(3, square), row(1), row()));
        check("a ROW without ITEMS alone does not FOLLOW", 0, 0, claimed(court(3, square), row()));
        check("3 does not FOLLOW", 0, 1, claimed(court(3, square), row(2, 1), row(3), row()));
        check("those behind it don't count", 0, 0, claimed(court(3, square), row(), row(1)));
        check("a ROW of the CASE", 0, 1, claimed(court(3, square), row(2, 1)));
        check("a greater ROW", 0, 1, claimed(court(3, square), row(3, 2, 1)));
        check("behind one without ITEMS all FOLLOW, but the last is no end", 0, 3,
                claimed(court(3, square), row(1), row(), row(3)));
        edge.of("44", "also if it has an ITEM and its CONTRARY");
        check("an ITEM and its CONTRARY", 0, 1, claimed(Hand.withNames(3), row(3, 1, -3)));
        check("without any ROW an ITEM does not FOLLOW", 0, 0, claimed(Hand.withNames(3), row(3, 1)));
        edge.of("44", "with all its ITEMS FALSE (and no other TRUTHS) FORCING by those others");
        ClauseCourt c = claimed(court(2, row(1, 2)), row(1));
        c.assume(-2);
        check("what is ASSUMED is no TRUTH there", 0, 0, c);
        ClauseCourt d = claimed(court(1), row(1));
        d.next(10);
        check("BARRED ROWS are not of the others", 0, 0, d);
        check("a CASE that comes to a QUARREL by itself", 1, NONE, claimed(court(1, row(1), row(-1)), row()));
        check("whatever is claimed of it", 0, 1, claimed(court(2, row(1), row(-1)), row(2)));
    }

    /** What count(), shrink(), forced() or an earlier check() tried is nothing to the next one. */
    private static void checksAnew() {
        edge.of("44", "(and no other TRUTHS) FORCING by those others");
        ClauseCourt c = claimed(court(2, row(1, 2)), row(2, -2));
        c.counted(1, true);
        check("ahead of all", 0, 1, c);
        c.strike(0);
        Hand.claim(c, 1);
        c.count(2, 100);
        check("behind count()", 0, 0, c);
        c.forced();
        check("behind forced()", 0, 0, c);
        ClauseCourt d = claimed(court(2, row(1), row(-1)), row(2), row());
        check("all FOLLOW", 1, NONE, d);
        ClauseCourt e = claimed(court(3, row(-1, 2), row(-2, 3)), row(-1, 3), row(-1));
        e.assume(1);
        check("-1 does not FOLLOW", 0, 1, e);
        e.strike(0);
        check("nor without the one ahead of it", 0, 0, e);
        ClauseCourt f = claimed(court(2, row(1, 2), row(1, -2)), row(1), row(1, 2));
        check("1 FOLLOWS", 0, 2, f);
        f.strike(0);
        Hand.clause(f, -2);
        check("ROWS that are struck are not of them, those of the CASE are", 0, 1, f);
        edge.is("forced() behind check()", 2, f.forced());
        edge.is("count() behind check()", 1, f.count(9, 100));
    }

    private static void checksTheLast() {
        edge.of("44", "and the last one have no ITEMS but CONTRARIES of ASSUMED ones (there must be a last one)");
        check("no ROW", 0, 0, new ClauseCourt());
        check("no ROW of a CASE that can't be", 0, 0, court(1, row()));
        ClauseCourt c = claimed(court(3, row(-1, 2), row(-2, 3)), row(-1, 3));
        check("none is ASSUMED", 0, 1, c);
        c.assume(1);
        check("3 is no CONTRARY of one", 0, 1, c);
        c.assume(3);
        check("3 itself is ASSUMED", 0, 1, c);
        c.assume(-3);
        check("both are", 1, NONE, c);
        c.assume(-2);
        check("there may be more", 1, NONE, c);
        c.free();
        check("none is any more", 0, 1, c);
        check("a ROW without ITEMS needs none", 1, NONE, claimed(court(1, row(1), row(-1)), row()));
        ClauseCourt d = claimed(court(1), row(1, -1));
        d.assume(1);
        check("one is, its CONTRARY is not", 0, 1, d);
        d.assume(-1);
        check("both are, and it has an ITEM and its CONTRARY", 1, NONE, d);
    }

    private static void refusedAts() {
        edge.of("45", "Of the latest check(). NONE: it said 1, or there was none");
        edge.leaves("refusedAt() ahead of any", NONE, ClauseCourt::new, ClauseCourt::refusedAt);
        edge.leavesInScenes("how many ROWS there are, if all do", 2, ClauseCourt::refusedAt);
        ClauseCourt c = claimed(court(2, row(1), row(-1)), row(2), row());
        edge.is("check()", 1, c.check());
        edge.is("it said 1", NONE, c.refusedAt());
        c.strike(1);
        edge.is("strike() is no check()", NONE, c.refusedAt());
        edge.is("check()", 0, c.check());
        edge.is("refusedAt()", 1, c.refusedAt());
        Hand.claim(c);
        edge.is("claim() is no check()", 1, c.refusedAt());
        edge.is("check()", 1, c.check());
        edge.is("refusedAt()", NONE, c.refusedAt());
        ClauseCourt d = claimed(court(2), row(1, -1), row(1), row(2));
        edge.is("check()", 0, d.check());
        edge.is("the first ROW that does not FOLLOW", 1, d.refusedAt());
    }

    /** Pigeons of which each has a NAME that must be ASSUMED for it to count: NO by d) has a ROW of these. */
    private static ClauseCourt guarded(int heavy, int begin, int forget) {
        ClauseCourt c = Hand.withNames(36);
        for (int b = 0; b < 6; b++) {
            Hand.clause(c, 5 * b + 1, 5 * b + 2, 5 * b + 3, 5 * b + 4, 5 * b + 5, -31 - b);
        }
        for (int h = 1; h <= 5; h++) {
            Hand.paper(c, 0, h, 5 + h, 10 + h, 15 + h, 20 + h, 25 + h);
            c.atMost(0, 1);
        }
        for (int b = 0; b < 6; b++) {
            c.assume(31 + b);
        }
        c.weight(heavy, 1000);
        c.begin(begin);
        c.forget(forget);
        int said = c.solve(5000);
        for (int i = 0; i < 9 && said == SPENT; i++) {
            said = c.goOn(5000);
        }
        return c;
    }

    private static void lastRowByAssumedFull() {
        edge.of("36", "the RECORD (8,000 ITEMS in all; NO's last one is one, too)");
        ClauseCourt c = guarded(19, 9, 21);
        edge.is("7,993 ITEMS, and 6 of NO's", 0, c.solved(0));
        edge.is("ITEMS of the CORE", 6, c.core(1));
        edge.is("ROWS of the RECORD", 633, c.solved(8));
        ClauseCourt d = guarded(28, 10, 18);
        edge.is("7,998 ITEMS: no room for 6 more", FULL, d.solved(0));
        edge.is("LEARNINGS", 639, d.solved(4));
        edge.is("ROWS of the RECORD", 639, d.solved(8));
        edge.is("core()", STATE, d.core(0));
    }
}
