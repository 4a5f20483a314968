import java.util.function.Supplier;

/** Promises 46 to 52, sentence by sentence: COUNTED NAMES, BARRED ROWS, counting, and what is forced. */
public final class CountingEdgesTest {
    private static final int BAD = ClauseCourt.BAD;
    private static final int STATE = ClauseCourt.STATE;
    private static final int FULL = ClauseCourt.FULL;
    private static final int SPENT = ClauseCourt.SPENT;
    private static final int NONE = ClauseCourt.NONE;
    private static final int MIN = Integer.MIN_VALUE;
    private static final int MAX = Integer.MAX_VALUE;
    private static final int[] NO_NAMES = {0, -1, -14, 15, 300, 301, MIN, MAX};
    private static final int[] NO_STEPS = {0, -1, 5001, MIN, MAX};
    private static final Edge edge = new Edge("CountingEdgesTest");

    public static void main(String[] args) {
        counted();
        countedRefused();
        countedFull();
        nextRefused();
        nextFull();
        nextBars();
        nextIgnoresAssumed();
        nextIsTheLatest();
        unbars();
        countRefused();
        countsUpTo();
        countSpent();
        countIsBeside();
        forced();
        forcedAts();
        whys();
        forcedByTheCaseAlone();
        forcesAllNames();
        edge.end();
    }

    private static ClauseCourt court(int names, int[]... rows) {
        ClauseCourt c = Hand.withNames(names);
        for (int[] row : rows) {
            Hand.clause(c, row);
        }
        return c;
    }

    private static int[] row(int... items) {
        return items;
    }

    private static void counted() {
        edge.of("46", "Whether a NAME is COUNTED: what it was (1, 0)");
        ClauseCourt c = Hand.withNames(300);
        for (int n : new int[] {1, 300}) {
            edge.is("counted(" + n + ", false)", 0, c.counted(n, false));
            edge.is("counted(" + n + ", true)", 0, c.counted(n, true));
            edge.is("counted(" + n + ", true) again", 1, c.counted(n, true));
            edge.is("about(7)", 1, c.about(7));
            edge.is("counted(" + n + ", false)", 1, c.counted(n, false));
            edge.is("counted(" + n + ", false) again", 0, c.counted(n, false));
            edge.is("about(7)", 0, c.about(7));
        }
        edge.leavesInScenes("one that is", 1, s -> s.counted(3, true));
        edge.leavesInScenes("one that is not", 0, s -> s.counted(2, false));
    }

    private static void countedRefused() {
        edge.of("46", "BAD; FULL");
        for (int n : NO_NAMES) {
            edge.refusedAnywhere("counted(" + n + ", true)", BAD, c -> c.counted(n, true));
            edge.refusedAnywhere("counted(" + n + ", false)", BAD, c -> c.counted(n, false));
        }
    }

    private static ClauseCourt counting(int so) {
        ClauseCourt c = Hand.withNames(25);
        for (int n = 1; n <= so; n++) {
            c.counted(n, true);
        }
        return c;
    }

    private static void countedFull() {
        edge.of("46", "COUNTED NAMES, 20 at most; FULL");
        edge.is("the 20th", 0, counting(19).counted(25, true));
        edge.refused("the 21st", FULL, () -> counting(20), c -> c.counted(21, true));
        edge.refused("BAD ahead of FULL", BAD, () -> counting(20), c -> c.counted(26, true));
        edge.leaves("one that is COUNTED", 1, () -> counting(20), c -> c.counted(20, true));
        edge.leaves("one that need not be", 0, () -> counting(20), c -> c.counted(21, false));
        ClauseCourt c = counting(20);
        c.counted(7, false);
        edge.is("there is room again", 0, c.counted(21, true));
        edge.is("about(7)", 20, c.about(7));
        edge.is("20 ITEMS of a BARRED ROW", 1, c.next(5000));
        edge.is("line(1000, -1)", 20, c.line(1000, -1));
        edge.is("line(1000, 19)", 21, c.line(1000, 19));
    }

    private static void nextRefused() {
        edge.of("47", "BAD: not 1 .. 5000");
        for (int steps : NO_STEPS) {
            edge.refusedAnywhere("next(" + steps + ")", BAD, c -> c.next(steps));
            edge.refused("BAD ahead of FULL: next(" + steps + ")", BAD, () -> barred(64), c -> c.next(steps));
        }
    }

    /** 7 NAMES are COUNTED: 128 TRUTHS. */
    private static ClauseCourt barred(int so) {
        ClauseCourt c = Hand.withNames(7);
        for (int n = 1; n <= 7; n++) {
            c.counted(n, true);
        }
        for (int i = 0; i < so; i++) {
            c.next(5000);
        }
        return c;
    }

    private static void nextFull() {
        edge.of("47", "FULL (also, refused ahead of SOLVING: 64 ROWS are BARRED)");
        edge.is("about(5)", 64, barred(64).about(5));
        edge.is("the 64th", 1, barred(63).next(5000));
        edge.refused("the 65th", FULL, () -> barred(64), c -> c.next(5000));
        edge.is("YES stays what was said", 1, refusedOnce().solved(0));
        Supplier<ClauseCourt> spent = () -> {
            ClauseCourt c = barred(64);
            c.solve(3);
            return c;
        };
        edge.refused("refused behind SPENT, so that goOn() goes on", FULL, spent, c -> c.next(5000));
        ClauseCourt c = barred(64);
        edge.is("unbar()", 64, c.unbar());
        edge.is("there is room again", 1, c.next(5000));
        edge.is("about(5)", 1, c.about(5));
    }

    private static ClauseCourt refusedOnce() {
        ClauseCourt c = barred(64);
        c.next(5000);
        return c;
    }

    private static void nextBars() {
        edge.of("47", "with YES a ROW comes behind these: of the COUNTED NAMES, rising, the ITEM that is FALSE then");
        ClauseCourt c = court(3, row(1, 3));
        c.counted(3, true);
        c.counted(1, true);
        edge.is("SPENT", SPENT, c.next(2));
        edge.is("no ROW comes with it", 0, c.about(5));
        edge.is("YES: -1, 3, -2", 1, c.next(3));
        edge.is("the ROW", "1 -3", Hand.line(c, 1000));
        edge.is("YES", 1, c.next(5000));
        edge.is("YES", 1, c.next(5000));
        edge.is("NO", 0, c.next(5000));
        edge.is("no ROW comes with it", 3, c.about(5));
        edge.is("NO again", 0, c.next(5000));
        edge.is("status()", 0, c.status());
        c.counted(1, false);
        c.counted(2, true);
        edge.is("ROWS that are BARRED stay as they are", "1 -3", Hand.line(c, 1000));
        ClauseCourt d = Hand.withNames(2);
        edge.is("none COUNTED", 1, d.next(5000));
        edge.is("a ROW without ITEMS", 0, d.line(1000, -1));
        edge.is("which nothing keeps", 0, d.next(5000));
        ClauseCourt e = new ClauseCourt();
        edge.is("no NAMES", 1, e.next(1));
        edge.is("no more", 0, e.next(1));
    }

    private static void nextIgnoresAssumed() {
        edge.of("47", "next(): SOLVING (no ITEM being ASSUMED) with the BARRED ROWS");
        ClauseCourt c = court(2, row(1, 2));
        c.counted(1, true);
        c.assume(-1);
        c.assume(-2);
        edge.is("solve()", 0, c.solve(5000));
        edge.is("next()", 1, c.next(5000));
        edge.is("about(4)", 2, c.about(4));
        edge.is("next()", 1, c.next(5000));
        edge.is("next()", 0, c.next(5000));
        edge.is("count()", 2, c.count(64, 5000));
    }

    private static void nextIsTheLatest() {
        edge.of("47", "SOLVING by solve(), goOn() and next() is the latest one (next() makes goOn() impossible)");
        ClauseCourt c = court(2, row(1), row(-1, 2));
        edge.is("next()", 1, c.next(2));
        edge.is("solved", "1 2 2 0 0 0 0 0 0 0", Hand.solved(c));
        edge.is("truth(2)", 1, c.truth(2));
        edge.is("goOn()", STATE, c.goOn(1));
        c.unbar();
        edge.is("SPENT", SPENT, c.next(1));
        edge.is("solved(0)", SPENT, c.solved(0));
        edge.is("goOn() behind it", STATE, c.goOn(1));
        c.solve(1);
        edge.is("goOn() behind solve()", 1, c.goOn(1));
    }

    private static void unbars() {
        edge.of("48", "No ROW is BARRED: how many were");
        edge.is("unbar() of none", 0, new ClauseCourt().unbar());
        ClauseCourt c = barred(64);
        String solved = Hand.solved(c);
        edge.is("unbar() of 64", 64, c.unbar());
        edge.is("about(5)", 0, c.about(5));
        edge.is("line(1000, -1)", NONE, c.line(1000, -1));
        edge.is("what was said stays", solved, Hand.solved(c));
        edge.is("unbar() once more", 0, c.unbar());
        edge.leaves("unbar() of none", 0, () -> {
            ClauseCourt d = Scenes.spent();
            d.unbar();
            return d;
        }, ClauseCourt::unbar);
    }

    private static void countRefused() {
        edge.of("49", "BAD: most not 1 .. 64, steps");
        for (int most : new int[] {0, -1, 65, MIN, MAX}) {
            edge.refusedAnywhere("count(" + most + ", 100)", BAD, c -> c.count(most, 100));
        }
        for (int steps : NO_STEPS) {
            edge.refusedAnywhere("count(1, " + steps + ")", BAD, c -> c.count(1, steps));
            edge.refusedAnywhere("count(64, " + steps + ")", BAD, c -> c.count(64, steps));
        }
    }

    private static ClauseCourt free(int names) {
        ClauseCourt c = Hand.withNames(names);
        for (int n = 1; n <= names; n++) {
            c.counted(n, true);
        }
        return c;
    }

    private static void countsUpTo() {
        edge.of("49", "up to NO or most times 1: how often 1 came");
        int[] most = {1, 2, 3, 4, 5, 64};
        for (int one : most) {
            edge.is("4 TRUTHS, count(" + one + ")", Math.min(one, 4), free(2).count(one, 5000));
        }
        edge.is("64 TRUTHS, count(63)", 63, free(6).count(63, 5000));
        edge.is("64 TRUTHS, count(64)", 64, free(6).count(64, 5000));
        edge.is("128 TRUTHS, count(64)", 64, free(7).count(64, 5000));
        edge.is("no NAMES", 1, new ClauseCourt().count(64, 1));
        edge.is("none COUNTED", 1, Hand.withNames(3).count(64, 5000));
        edge.is("no TRUTH", 0, court(1, row()).count(64, 1));
        edge.is("no TRUTH, up to 1", 0, court(1, row(1), row(-1)).count(1, 5000));
        ClauseCourt c = court(2, row(1, 2));
        c.counted(1, true);
        edge.is("2 ways for 1", 2, c.count(64, 5000));
        edge.of("49", "no ROW being BARRED at first");
        c.next(5000);
        c.next(5000);
        edge.is("next()", 0, c.next(5000));
        edge.is("count()", 2, c.count(64, 5000));
        edge.is("about(5)", 2, c.about(5));
        edge.is("count() with 64 BARRED", 64, barred(64).count(64, 5000));
    }

    /** One NAME, COUNTED: -1 is DECIDED; then ROW 1000 forces 1; then it does so again, and ROW 1001 quarrels: a STEP each. */
    private static void countSpent() {
        edge.of("49", "SPENT: so many STEPS are not enough for all");
        edge.is("count(1, 1)", 1, free(1).count(1, 1));
        edge.is("count(2, 1)", SPENT, free(1).count(2, 1));
        edge.is("count(2, 2)", 2, free(1).count(2, 2));
        edge.is("count(3, 2)", SPENT, free(1).count(3, 2));
        edge.is("count(3, 3)", 2, free(1).count(3, 3));
        ClauseCourt c = free(1);
        c.count(3, 2);
        edge.is("status() is not told of it", 0, c.status());
        edge.is("about(5)", 0, c.about(5));
        edge.is("NO without a STEP", 0, court(1, row()).count(1, 1));
    }

    private static void countIsBeside() {
        edge.of("49", "what count() does is beside the latest SOLVING and leaves it alone");
        edge.leavesInScenes("a count() that is SPENT", SPENT, c -> c.count(64, 1));
        edge.leaves("count() ahead of SOLVING", 4, () -> free(2), c -> c.count(64, 5000));
        int times = Scenes.spent().count(64, 5000);
        edge.is("TRUTHS of 1, 3, 6", 1, times > 0 ? 1 : 0);
        edge.leaves("count() behind SPENT", times, Scenes::spent, c -> c.count(64, 5000));
        edge.leaves("count() behind YES", times, Scenes::yes, c -> c.count(64, 5000));
        edge.leaves("count() behind YES of next()", times, Scenes::byNext, c -> c.count(64, 5000));
        edge.leaves("count() behind NO by b)", 0, Scenes::lost, c -> c.count(64, 5000));
    }

    private static void forced() {
        edge.of("50", "how many ITEMS it forces; NONE: it comes to a QUARREL");
        edge.leaves("no NAMES", 0, ClauseCourt::new, ClauseCourt::forced);
        edge.leaves("no ROWS", 0, () -> Hand.withNames(3), ClauseCourt::forced);
        edge.leaves("one", 1, () -> court(3, row(2)), ClauseCourt::forced);
        edge.leaves("all", 3, () -> court(3, row(-1, 2), row(1), row(-2, -3)), ClauseCourt::forced);
        edge.leaves("a QUARREL", NONE, () -> court(1, row(1), row(-1)), ClauseCourt::forced);
        edge.leaves("a ROW without ITEMS", NONE, () -> court(1, row()), ClauseCourt::forced);
        int forced = Scenes.spent().forced();
        edge.leaves("behind SPENT", forced, Scenes::spent, ClauseCourt::forced);
        edge.leaves("behind NO by b)", NONE, Scenes::lost, ClauseCourt::forced);
    }

    private static void forcedAts() {
        edge.of("51", "The k-th ITEM (from 0) that forced() would force now, up to a QUARREL. NONE");
        for (int k : new int[] {-1, 14, 300, MIN, MAX}) {
            edge.noneAnywhere("forcedAt(" + k + ")", c -> c.forcedAt(k));
        }
        edge.leaves("of none", NONE, () -> Hand.withNames(1), c -> c.forcedAt(0));
        Supplier<ClauseCourt> quarrels = () -> court(4, row(-1, 2), row(1), row(-2, -1), row(3));
        edge.leaves("forcedAt(0)", 1, quarrels, c -> c.forcedAt(0));
        edge.leaves("forcedAt(1)", 2, quarrels, c -> c.forcedAt(1));
        edge.leaves("forcedAt(2), behind the QUARREL", NONE, quarrels, c -> c.forcedAt(2));
        ClauseCourt c = court(2, row(1));
        edge.is("forcedAt(1)", NONE, c.forcedAt(1));
        Hand.clause(c, -1, -2);
        edge.is("forcedAt(1) now", -2, c.forcedAt(1));
    }

    private static void whys() {
        edge.of("52", "The REASON of a NAME as forced() would force it now. BAD; NONE");
        for (int n : NO_NAMES) {
            edge.refusedAnywhere("why(" + n + ")", BAD, c -> c.why(n));
        }
        Supplier<ClauseCourt> quarrels = () -> court(4, row(-1, 2), row(1), row(-2, -1), row(3));
        edge.leaves("why(1)", 1, quarrels, c -> c.why(1));
        edge.leaves("why(2)", 0, quarrels, c -> c.why(2));
        edge.leaves("why(3), behind the QUARREL", NONE, quarrels, c -> c.why(3));
        edge.leaves("why(4), in no ROW", NONE, quarrels, c -> c.why(4));
        edge.leaves("of a NAME that is 0", 0, () -> court(1, row(-1)), c -> c.why(1));
        ClauseCourt c = court(2, row(1));
        edge.is("why(2)", NONE, c.why(2));
        Hand.clause(c, -1, -2);
        edge.is("why(2) now", 1, c.why(2));
    }

    /** Each ATMOST of 12 with 0 makes 11 NAMES and forces 23; NAME 300 is forced by a ROW of its own. */
    private static ClauseCourt allForced() {
        ClauseCourt c = new ClauseCourt();
        for (int rule = 0; rule < 13; rule++) {
            int names = c.names(12);
            c.row(0, 12);
            for (int i = 0; i < 12; i++) {
                c.put(0, i, names - i);
            }
            c.atMost(0, 0);
        }
        c.names(1);
        Hand.clause(c, -300, 1);
        return c;
    }

    private static void forcesAllNames() {
        edge.of("50", "NAMES, 300 at most: how many ITEMS it forces");
        ClauseCourt c = allForced();
        edge.is("about(0)", 300, c.about(0));
        edge.is("forced()", 300, c.forced());
        edge.is("forcedAt(299)", -300, c.forcedAt(299));
        edge.is("forcedAt(300)", NONE, c.forcedAt(300));
        edge.is("why(300)", c.about(2) - 1, c.why(300));
        Hand.clause(c, 300, 2);
        edge.is("a QUARREL behind all 300", NONE, c.forced());
        edge.is("forcedAt(299)", -300, c.forcedAt(299));
        edge.is("solve(299)", SPENT, c.solve(299));
        edge.is("solve(300)", 0, c.solve(300));
        c.take();
        edge.is("check()", 1, c.check());
    }

    private static void forcedByTheCaseAlone() {
        edge.of("50", "FORCING by the ROWS of the CASE alone, all NAMES open at first");
        ClauseCourt c = court(2, row(1, 2), row(1, -2));
        c.counted(2, true);
        c.assume(-2);
        edge.is("ASSUMED ITEMS are none of it", 0, c.forced());
        c.solve(5000);
        edge.is("LEARNT ROWS are none of it", 0, c.forced());
        edge.is("a ROW was learnt, or FORCED by what is ASSUMED", 1, c.truth(1));
        c.next(5000);
        c.next(5000);
        edge.is("BARRED ROWS are none of it", 0, c.forced());
        c.solve(1);
        edge.is("nor is what was tried", 0, c.forced());
        edge.is("forcedAt(0)", NONE, c.forcedAt(0));
        edge.is("why(1)", NONE, c.why(1));
    }
}
