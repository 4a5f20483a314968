import java.util.ArrayList;
import java.util.Arrays;
import java.util.List;
import java.util.function.Supplier;

/** Parts 3 and 4, sentence by sentence: FORCING, the turns of SOLVING, LEARNING, BEGINNING ANEW, FORGETTING and the RECORD. */
public final class LearningEdgesTest {
    private static final int STATE = ClauseCourt.STATE;
    private static final int FULL = ClauseCourt.FULL;
    private static final int SPENT = ClauseCourt.SPENT;
    private static final int NONE = ClauseCourt.NONE;
    private static final Edge edge = new Edge("LearningEdgesTest");

    public static void main(String[] args) {
        quarrelAheadOfForcing();
        firstQuarrel();
        firstThatForces();
        rowsThatForceNothing();
        barredBehindCase();
        learntBehindBarred();
        learntQuarrel();
        assumedTurns();
        latestTruths();
        setWithoutLevelNone();
        newRowByFallingPlaces();
        riseGrows();
        weightsAreDivided();
        beginningAnew();
        beginningAnewLate();
        forgettingMoreThan();
        forgettingNoReason();
        forgettingMoreThanTwoItems();
        recordOf800Rows();
        recordOf8000Items();
        recordBesideAFullCase();
        lastRowOfNo();
        fullIsNoStep();
        forgettingByUse();
        useBeginsAnew();
        undoneWhicheverWay();
        beginsAnewEachTime();
        edge.end();
    }

    private static ClauseCourt court(int names, int[]... rows) {
        ClauseCourt c = Hand.withNames(names);
        for (int[] row : rows) {
            Hand.clause(c, row);
        }
        return c;
    }

    private static int[] row(int... items) {
        return items;
    }

    private static int run(ClauseCourt c, int steps) {
        int said = c.solve(Math.min(steps, 5000));
        for (int left = steps - 5000; left > 0 && said == SPENT; left -= 5000) {
            said = c.goOn(Math.min(left, 5000));
        }
        return said;
    }

    /** The court just behind a LEARNING: as few STEPS as bring it are looked for, each time with a new court. */
    private static ClauseCourt behindLearning(Supplier<ClauseCourt> make, int learning) {
        int low = 0;
        int high = 60000;
        while (high - low > 1) {
            int middle = (low + high) / 2;
            ClauseCourt c = make.get();
            run(c, middle);
            if (c.solved(4) >= learning) {
                high = middle;
            } else {
                low = middle;
            }
        }
        ClauseCourt c = make.get();
        run(c, high);
        return c;
    }

    // ---- FORCING

    private static void quarrelAheadOfForcing() {
        edge.of("50", "the first one all of whose ITEMS are FALSE is the QUARREL, and it ends; if there is none: ..");
        ClauseCourt c = court(3, row(-1, 2), row(1), row(-1), row(3));
        edge.is("forced", NONE, c.forced());
        edge.is("forcedAt(0)", 1, c.forcedAt(0));
        edge.is("2 is not FORCED any more", NONE, c.forcedAt(1));
        edge.is("why(2)", NONE, c.why(2));
        edge.is("solve", 0, c.solve(1));
        edge.is("STEPS", 1, c.solved(1));
        edge.is("quarrel", "2 0 0 0 0", Hand.quarrel(c));
        ClauseCourt d = court(1, row(1), row());
        edge.is("a ROW without ITEMS is one at once", NONE, d.forced());
        edge.is("forcedAt(0)", NONE, d.forcedAt(0));
        edge.is("solve", 0, d.solve(1));
        edge.is("STEPS", 0, d.solved(1));
        ClauseCourt e = court(1, row(), row(1));
        edge.is("also as the first ROW", NONE, e.forced());
        edge.is("forcedAt(0)", NONE, e.forcedAt(0));
        edge.is("why(1)", NONE, e.why(1));
        edge.is("solve", 0, e.solve(1));
        edge.is("quarrel", "0 0 0 0 0", Hand.quarrel(e));
    }

    private static void firstQuarrel() {
        edge.of("35", "ROWS are looked at by their ORDER: the first one all of whose ITEMS are FALSE");
        ClauseCourt c = court(2, row(1, 2), row(-1), row(-1, -1), row(1), row(-1));
        c.solve(9);
        edge.is("1 is FALSE by ROW 1, so ROW 3 is it", 3, c.quarrel(0));
        ClauseCourt d = court(2, row(1), row(-1, 2), row(-2, -1), row(-2));
        d.solve(9);
        edge.is("ROWS 2 and 3 both are: the first", 2, d.quarrel(0));
    }

    private static void firstThatForces() {
        edge.of("51", "in the first one of whose ITEMS one is open and all others are FALSE that one becomes TRUE; and again");
        ClauseCourt c = court(4, row(-3, 4), row(-2, 3), row(1), row(2), row(3));
        int[] order = {1, 2, 3, 4};
        int[] why = {2, 3, 1, 0};
        for (int k = 0; k < 4; k++) {
            edge.is("forcedAt(" + k + ")", order[k], c.forcedAt(k));
            edge.is("why(" + order[k] + ")", why[k], c.why(order[k]));
        }
    }

    private static void rowsThatForceNothing() {
        edge.of("50", "of whose ITEMS one is open and all others are FALSE");
        edge.is("two open", 0, court(2, row(1, 2)).forced());
        edge.is("an ITEM and its CONTRARY", 0, court(1, row(1, -1)).forced());
        edge.is("one TRUE, one open", 1, court(2, row(1), row(1, 2)).forced());
        edge.is("one TRUE, one FALSE, one open", 2, court(3, row(1), row(-2), row(1, 2, 3)).forced());
        edge.is("the same one twice is one", 1, court(1, row(1, 1)).forced());
        edge.is("no NAMES, no ROWS", 0, new ClauseCourt().forced());
    }

    private static void barredBehindCase() {
        edge.of("47", "ORDER (of the CASE by numbers, then BARRED ones ..): BARRED 1000 and more");
        ClauseCourt c = court(1, row(-1));
        c.counted(1, true);
        edge.is("next", 1, c.next(10));
        edge.is("the BARRED ROW", "1", Hand.line(c, 1000));
        edge.is("next", 0, c.next(10));
        edge.is("the CASE forces, the BARRED one quarrels", "1000 0 0 0 0", Hand.quarrel(c));
    }

    /**
     * -1, -2 are DECIDED, ROW 0 forces -3, ROW 1000 quarrels: 2 1 is learnt. It forces 2, ROW 1 3, ROW 3 quarrels: -2 is learnt. It
     * is FORCED, then -3, -1 by ROWS 0 and 2: so both ROWS 1000 and 2000 have FALSE ITEMS alone.
     */
    private static void learntBehindBarred() {
        edge.of("47", "ORDER (.. then BARRED ones, then LEARNT ones, by numbers)");
        ClauseCourt c = court(3, row(2, -3), row(3, -2), row(2, -1), row(-3, -2));
        for (int n = 1; n <= 3; n++) {
            c.counted(n, true);
        }
        edge.is("next", 1, c.next(10));
        edge.is("the BARRED ROW", "1 2 3", Hand.line(c, 1000));
        edge.is("next", 0, c.next(10));
        edge.is("LEARNT", "2 1", Hand.line(c, 2000));
        edge.is("LEARNT", "-2", Hand.line(c, 2001));
        edge.is("the first by ORDER", "1000 0 0 0 0", Hand.quarrel(c));
    }

    /**
     * -1, -2 are DECIDED, ROW 1 forces 3, ROW 3 quarrels: 2 1 is learnt. It forces 2, ROW 2 3, ROW 4 quarrels: -2 is learnt. It is
     * FORCED, then -1 by ROW 0: and ROW 2000 quarrels.
     */
    private static void learntQuarrel() {
        edge.of("35", "ROWS are told by numbers: .. LEARNT 2000 and more");
        ClauseCourt c = court(3, row(-1, 2), row(3, 2), row(3, -2), row(1, -3, 2), row(-2, -3));
        edge.is("solve", 0, c.solve(9));
        edge.is("solved", "0 9 5 2 2 0 0 2 3 2", Hand.solved(c));
        edge.is("quarrel", "2000 0 0 0 0", Hand.quarrel(c));
        edge.is("its SOURCES", "0 1 2 3 4", Hand.core(c, 0));
        int greatest = 0;
        int said = SPENT;
        for (int steps = 1; said == SPENT; steps++) {
            ClauseCourt d = Scenes.pigeons(5, 4);
            said = d.solve(steps);
            int row = d.quarrel(0);
            greatest = Math.max(greatest, row);
            boolean there = row >= 0 && row < d.about(2) || row >= 2000 && d.line(row, -1) >= 0;
            edge.is("a ROW that there is: " + row, 1, row == NONE || there ? 1 : 0);
        }
        edge.is("some were LEARNT ones behind the first", 1, greatest > 2000 ? 1 : 0);
    }

    // ---- the turns

    private static void assumedTurns() {
        edge.of("31", "d) if some ASSUMED ITEM (in their order) is not TRUE, the first such: FALSE: NO; open: DECIDED");
        ClauseCourt c = court(2, row(-1, 2));
        c.assume(1);
        c.assume(2);
        edge.is("1 DECIDED, 2 FORCED", 1, c.solve(2));
        edge.is("solved", "1 2 1 1 0 0 0 0 0 1", Hand.solved(c));
        ClauseCourt d = court(3, row(-1, 2));
        d.assume(1);
        d.assume(-2);
        d.assume(3);
        edge.is("-2 is FALSE ahead of 3 being DECIDED", 0, d.solve(9));
        edge.is("solved", "0 2 1 1 0 0 0 0 1 1", Hand.solved(d));
        ClauseCourt e = court(3, row(-1, 2));
        e.assume(3);
        e.assume(1);
        e.assume(-2);
        edge.is("3 is DECIDED first", 0, e.solve(9));
        edge.is("solved", "0 3 1 2 0 0 0 0 1 2", Hand.solved(e));
        ClauseCourt f = court(2);
        f.weight(2, 1000);
        f.assume(-1);
        f.assume(1);
        edge.is("ASSUMED ones come ahead of the heaviest", 0, f.solve(1));
        edge.is("solved", "0 1 0 1 0 0 0 0 1 1", Hand.solved(f));
        edge.of("31", "e) Else, if no NAME is open: YES");
        edge.is("no NAME at all", 1, new ClauseCourt().solve(1));
        ClauseCourt g = court(2, row(1), row(-1, -2));
        edge.is("all are FORCED", 1, g.solve(2));
        edge.is("solved", "1 2 2 0 0 0 0 0 0 0", Hand.solved(g));
    }

    private static ClauseCourt learns() {
        return court(2, row(1, 2), row(1, -2));
    }

    private static void latestTruths() {
        edge.of("31", "the LATEST TRUTH of each NAME 0; all of greater LEVELS are open again, their TRUTHS are their LATEST ones");
        ClauseCourt c = learns();
        c.solve(9);
        edge.is("2 was TRUE when it was undone", 1, c.truth(2));
        Hand.clause(c, 1);
        c.solve(9);
        edge.is("the next SOLVING begins with 0", 0, c.truth(2));
    }

    // ---- LEARNING

    private static void setWithoutLevelNone() {
        edge.of("35", "A set of ITEMS is at first those of the QUARREL that are of no LEVEL 0");
        ClauseCourt c = court(3, row(3), row(1, 2, -3), row(1, -2, -3), row(-1, 2), row(-1, -2));
        edge.is("solve", 0, c.solve(20));
        edge.is("the NEW ROW", "1", Hand.line(c, 2000));
        edge.is("3 had no RISE", 0, c.weighs(3));
        edge.is("1 had", 64, c.weighs(1));
        edge.is("2 had", 64, c.weighs(2));
        edge.of("36", "SOURCES are those .. of each NAME of LEVEL 0 that stands in any of these");
        edge.is("ROW 0 forced 3", "0 1 2 3 4", Hand.core(c, 0));
    }

    private static void newRowByFallingPlaces() {
        edge.of("20", "The NEW ROW has the CONTRARY of the last t, then the others of the set, by falling places");
        ClauseCourt c = court(4, row(1, 2, 3, -4), row(1, 2, 3, 4));
        c.solve(5);
        edge.is("-1, -2, -3 DECIDED", "3 2 1", Hand.line(c, 2000));
        edge.is("LEVEL becomes the greatest one of its other ITEMS", "1 3 2 4 3", Hand.quarrel(c));
        ClauseCourt d = court(4, row(1, 2, 3, -4), row(1, 2, 3, 4));
        d.weight(2, 3);
        d.weight(3, 2);
        d.solve(5);
        edge.is("-2, -3, -1 DECIDED", "1 3 2", Hand.line(d, 2000));
        ClauseCourt e = court(5, row(1, 3, -4), row(1, 3, 4));
        e.solve(5);
        edge.is("-2 is not in it: LEVEL 1", "1 3 1 3 2", Hand.quarrel(e));
        edge.is("(0 without any)", "1 1 0 2 1", Hand.quarrel(solved(learns(), 3)));
    }

    private static ClauseCourt solved(ClauseCourt c, int steps) {
        c.solve(steps);
        return c;
    }

    /** Pairs of ROWS n m, n -m, of NAMES of their own: each brings a LEARNING of one ITEM that raises just these two. */
    private static ClauseCourt pairs(int so) {
        ClauseCourt c = Hand.withNames(2 * so);
        for (int i = 0; i < so; i++) {
            Hand.clause(c, 2 * i + 1, 2 * i + 2);
            Hand.clause(c, 2 * i + 1, -2 * i - 2);
        }
        return c;
    }

    private static void riseGrows() {
        edge.of("28", "RISE 64; then RISE becomes RISE + RISE / 8");
        ClauseCourt c = pairs(10);
        edge.is("solve", 1, c.solve(500));
        edge.is("LEARNINGS", 10, c.solved(4));
        int[] rise = {64, 72, 81, 91, 102, 114, 128, 144, 162, 182};
        for (int i = 0; i < 10; i++) {
            edge.is("weighs(" + (2 * i + 1) + ")", rise[i], c.weighs(2 * i + 1));
            edge.is("weighs(" + (2 * i + 2) + ")", rise[i], c.weighs(2 * i + 2));
        }
        c.solve(3);
        edge.is("each SOLVING begins with 64", 64, c.weighs(1));
    }

    private static long[] weights(ClauseCourt c) {
        long[] all = new long[c.about(0) + 1];
        for (int n = 1; n < all.length; n++) {
            all[n] = c.weighs(n);
        }
        return all;
    }

    private static long heaviest(long[] weights) {
        return Arrays.stream(weights).max().orElse(0);
    }

    private static long riseOf(int learning) {
        long rise = 64;
        for (int i = 1; i < learning; i++) {
            rise += rise / 8;
        }
        return rise;
    }

    private static void weightsAreDivided() {
        edge.of("28", "if a WEIGHT is above 1000000000000, each WEIGHT and RISE are divided by 1048576 (cut)");
        Supplier<ClauseCourt> make = () -> {
            ClauseCourt c = Scenes.pigeons(7, 6);
            c.weight(c.about(0), 1000);
            return c;
        };
        int first = 160;
        long[] before = weights(behindLearning(make, first));
        long[] behind = before;
        while (first < 230 && heaviest(behind) >= heaviest(before)) {
            first++;
            before = behind;
            behind = weights(behindLearning(make, first));
        }
        edge.is("none was above it", 1, heaviest(before) <= 1000000000000L ? 1 : 0);
        long rise = riseOf(first);
        int raised = 0;
        long highest = 0;
        for (int n = 1; n < before.length; n++) {
            boolean had = behind[n] == (before[n] + rise) / 1048576;
            raised += had ? 1 : 0;
            highest = Math.max(highest, had ? before[n] + rise : before[n]);
            edge.is("WEIGHT of " + n, had ? (before[n] + rise) / 1048576 : before[n] / 1048576, behind[n]);
        }
        edge.is("NAMES that had RISE", behindLearning(make, first).quarrel(3), raised);
        edge.is("one was above it", 1, highest > 1000000000000L ? 1 : 0);
        long divided = (rise + rise / 8) / 1048576;
        ClauseCourt next = behindLearning(make, first + 1);
        long[] then = weights(next);
        int again = 0;
        for (int n = 1; n < then.length; n++) {
            again += then[n] == behind[n] + divided ? 1 : 0;
        }
        edge.is("RISE is divided, too", next.quarrel(3), again);
        edge.is("the last NAME's WEIGHT is divided, too", 1, behind[behind.length - 1] < before[before.length - 1] ? 1 : 0);
        edge.is("before that none was divided", 1, heaviest(before) > heaviest(weights(behindLearning(make, first - 5))) ? 1 : 0);
    }

    // ---- BEGINNING ANEW

    /** Each part is what was before it, twice, and then twice its last number. */
    private static List<Integer> paces(int so) {
        List<Integer> row = new ArrayList<>(List.of(1));
        while (row.size() < so) {
            List<Integer> twice = new ArrayList<>(row);
            twice.addAll(row);
            twice.add(2 * row.get(row.size() - 1));
            row = twice;
        }
        return row;
    }

    private static void beginningAnew() {
        edge.of("29", "if QUARRELS learnt from since the latest one are u times H, or more; the row 1 1 2 1 1 2 4 ..");
        edge.is("the row", "[1, 1, 2, 1, 1, 2, 4, 1, 1, 2, 1, 1, 2, 4, 8]", paces(15).toString());
        for (int told = 0; told <= 3; told++) {
            int u = told;
            int anew = 0;
            int since = 0;
            for (int learning = 1; learning <= 40; learning++) {
                ClauseCourt c = behindLearning(() -> begun(u), learning);
                since++;
                boolean now = u > 0 && since >= u * paces(40).get(anew);
                if (now) {
                    anew++;
                    since = 0;
                }
                edge.is("begin(" + u + "), LEARNING " + learning, anew, c.solved(5));
                if (now) {
                    edge.is("begin(" + u + "), LEVEL behind LEARNING " + learning, 0, c.quarrel(2));
                }
            }
        }
    }

    private static ClauseCourt begun(int u) {
        ClauseCourt c = Scenes.pigeons(6, 5);
        c.begin(u);
        return c;
    }

    private static void beginningAnewLate() {
        edge.of("29", "u times H, or more");
        edge.is("begin(100), LEARNING 99", 0, behindLearning(() -> begun(100), 99).solved(5));
        edge.is("begin(100), LEARNING 100", 1, behindLearning(() -> begun(100), 100).solved(5));
        ClauseCourt c = behindLearning(() -> begun(0), 4);
        edge.is("without it the LEVEL is that of the NEW ROW", 1, c.quarrel(2) > 0 ? 1 : 0);
        edge.is("and with it 0", 0, behindLearning(() -> begun(1), 4).quarrel(2));
    }

    // ---- FORGETTING

    /** Like pairs(), but of so many ITEMS: those of NAMES a, b .. and d, -d; each LEARNING has a NEW ROW of all but d. */
    private static ClauseCourt wide(int copies, int size, int begin, int forget) {
        ClauseCourt c = Hand.withNames(copies * (size + 1));
        for (int i = 0; i < copies; i++) {
            int[] items = new int[size + 1];
            for (int k = 0; k <= size; k++) {
                items[k] = i * (size + 1) + k + 1;
            }
            Hand.clause(c, items);
            items[size] = -items[size];
            Hand.clause(c, items);
        }
        c.begin(begin);
        c.forget(forget);
        return c;
    }

    private static void went(int begin, int forget, int size, int... wanted) {
        for (int learning = 1; learning <= wanted.length; learning++) {
            ClauseCourt c = behindLearning(() -> wide(10, size, begin, forget), learning);
            String what = "forget(" + forget + "), begin(" + begin + "), " + size + " ITEMS, LEARNING " + learning;
            edge.is(what, wanted[learning - 1], c.solved(6));
            edge.is(what + ": those that are there", learning - wanted[learning - 1], c.solved(7));
            edge.is(what + ": the RECORD", learning, c.solved(8));
            edge.is(what + ": the NEW ROW", size, c.line(1999 + learning, -1));
        }
    }

    /**
     * SOLVING begins anew with LEARNINGS 1, 2, 4, 5, 6: there, no ROW is a REASON. With LEARNING 4, three are there, of which one
     * goes; with 5 three again, with 6 three once more.
     */
    private static void forgettingMoreThan() {
        edge.of("30", "if more than m LEARNT ROWS are there: .. the first half (cut) goes");
        went(1, 0, 3, 0, 0, 0, 0, 0, 0);
        went(1, 1, 3, 0, 0, 0, 1, 2, 3);
        went(1, 2, 3, 0, 0, 0, 1, 2, 3);
        went(1, 3, 3, 0, 0, 0, 0, 2, 2);
        went(1, 4, 3, 0, 0, 0, 0, 0, 2);
        went(1, 800, 3, 0, 0, 0, 0, 0, 0);
    }

    /** Without BEGINNING ANEW each LEARNT ROW is the REASON of one of its ITEMS still. */
    private static void forgettingNoReason() {
        edge.of("30", "that are no REASON now");
        went(0, 1, 3, 0, 0, 0, 0, 0, 0);
        went(0, 2, 3, 0, 0, 0, 0, 0, 0);
    }

    private static void forgettingMoreThanTwoItems() {
        edge.of("30", "of those of more than two ITEMS");
        went(1, 1, 2, 0, 0, 0, 0, 0, 0);
        went(1, 1, 4, 0, 0, 0, 1, 2, 3);
    }

    // ---- the RECORD

    private static ClauseCourt hard(int birds, int begin, int forget, int heavy) {
        ClauseCourt c = Scenes.pigeons(birds, birds - 1);
        c.begin(begin);
        c.forget(forget);
        if (heavy > 0) {
            c.weight(heavy, 1000);
        }
        return c;
    }

    /** A court is asked for 200 ROWS at most, as 512 calls are all that it is made for. */
    private static int itemsLearnt(Supplier<ClauseCourt> make) {
        int items = 0;
        ClauseCourt c = ended(make);
        int learnt = c.solved(4);
        for (int k = 0; k < learnt; k++) {
            if (k > 0 && k % 200 == 0) {
                c = ended(make);
            }
            items += c.line(2000 + k, -1);
        }
        return items;
    }

    private static ClauseCourt ended(Supplier<ClauseCourt> make) {
        ClauseCourt c = make.get();
        run(c, 60000);
        return c;
    }

    private static void endedFull(ClauseCourt c) {
        edge.is("solved(0)", FULL, c.solved(0));
        edge.is("status() is not told of it", 0, c.status());
        edge.is("goOn()", STATE, c.goOn(5000));
        edge.is("core()", STATE, c.core(0));
        edge.is("take()", STATE, c.take());
        edge.is("solved(0) stays", FULL, c.solved(0));
    }

    private static void recordOf800Rows() {
        edge.of("31", "LEARNING for which the RECORD (800 ROWS ..) has no room: FULL");
        ClauseCourt c = ended(() -> hard(6, 1, 1, 0));
        edge.is("ROWS of the RECORD", 800, c.solved(8));
        edge.is("LEARNINGS", 800, c.solved(4));
        edge.is("line(2799, -1)", 1, c.line(2799, -1) > 0 ? 1 : 0);
        edge.is("line(2800, -1)", NONE, c.line(2800, -1));
        endedFull(c);
    }

    private static void recordOf8000Items() {
        edge.of("31", "LEARNING for which the RECORD (.. 8,000 ITEMS in all) has no room: FULL");
        Supplier<ClauseCourt> exact = () -> hard(7, 3, 1, 0);
        edge.is("ITEMS, to the last", 8000, itemsLearnt(exact));
        ClauseCourt c = ended(exact);
        edge.is("ROWS", 700, c.solved(8));
        endedFull(c);
        Supplier<ClauseCourt> nearly = () -> hard(7, 0, 1, 0);
        edge.is("ITEMS, one is left", 7999, itemsLearnt(nearly));
        edge.is("said", FULL, ended(nearly).solved(0));
    }

    /** ROWS that don't meddle with the others, until there are 500. */
    private static ClauseCourt filled(ClauseCourt c, int parities) {
        int names = c.names(12);
        int[] last = new int[12];
        for (int i = 0; i < 12; i++) {
            last[i] = names - i;
        }
        Hand.paper(c, 0, last);
        if (parities == 0) {
            c.group(0, 12);
        }
        for (int i = 0; i < parities; i++) {
            c.parity(0, true);
        }
        int rows = c.about(2);
        c.put(0, 11, -last[0]);
        for (int i = rows; i < 500; i++) {
            c.clause(0);
        }
        c.weight(c.about(0), 1000);
        return c;
    }

    private static void recordBesideAFullCase() {
        edge.of("31", "the CASE (500 at most, with 2,500 ITEMS in all); the RECORD (800 ROWS, 8,000 ITEMS in all)");
        ClauseCourt c = ended(() -> filled(hard(6, 1, 1, 0), 0));
        edge.is("ROWS of the CASE", 500, c.about(2));
        edge.is("said", FULL, c.solved(0));
        edge.is("ROWS of the RECORD", 800, c.solved(8));
        edge.is("line(2799, -1)", 1, c.line(2799, -1) > 0 ? 1 : 0);
        Supplier<ClauseCourt> make = () -> filled(hard(7, 3, 1, 0), 5);
        ClauseCourt d = ended(make);
        edge.is("ROWS of the CASE", 500, d.about(2));
        edge.is("ITEMS of the CASE", 1529, d.about(3));
        edge.is("said", FULL, d.solved(0));
        int items = itemsLearnt(make);
        edge.is("nearly 8,000 ITEMS: " + items, 1, items <= 8000 && items > 7950 ? 1 : 0);
    }

    private static void lastRowOfNo() {
        edge.of("31", "the RECORD (800 ROWS; NO's last one is one, too)");
        ClauseCourt c = ended(() -> hard(6, 2, 13, 14));
        edge.is("NO's is the 800th", 0, c.solved(0));
        edge.is("LEARNINGS", 799, c.solved(4));
        edge.is("ROWS of the RECORD", 800, c.solved(8));
        edge.is("take()", 800, c.take());
        ClauseCourt d = ended(() -> hard(6, 3, 7, 0));
        edge.is("NO's would be the 801st", FULL, d.solved(0));
        edge.is("LEARNINGS", 800, d.solved(4));
        edge.is("ROWS of the RECORD", 800, d.solved(8));
        endedFull(d);
    }

    /** The court that had no STEP more than it took may have been SPENT: what it tells but for that must be the same. */
    private static void fullIsNoStep() {
        edge.of("31", "it is asked when the NEW ROW is known; nothing else of that LEARNING is done then, it is no STEP");
        Supplier<ClauseCourt> make = () -> hard(7, 3, 1, 0);
        ClauseCourt full = ended(make);
        ClauseCourt spent = make.get();
        run(spent, full.solved(1));
        for (int what = 1; what <= 9; what++) {
            edge.is("solved(" + what + ")", spent.solved(what), full.solved(what));
        }
        edge.is("STEPS", full.solved(1), full.solved(2) + full.solved(3) + full.solved(4));
        edge.is("quarrel", Hand.quarrel(spent), Hand.quarrel(full));
        edge.is("WEIGHTS", Arrays.toString(weights(spent)), Arrays.toString(weights(full)));
    }

    private static String figures(ClauseCourt c) {
        return Hand.solved(c) + " / " + Hand.quarrel(c) + Arrays.toString(weights(c)) + Hand.line(c, 2000) + Hand.line(c, 2005);
    }

    private static void beginsAnewEachTime() {
        edge.of("31", "SOLVING begins with all NAMES open, LEVEL 0, no LEARNT ROWS, WEIGHTS as weight() told them, RISE 64");
        for (int u = 0; u <= 4; u++) {
            int begin = u;
            Supplier<ClauseCourt> make = () -> {
                ClauseCourt c = Scenes.pigeons(5, 4);
                c.begin(begin);
                c.forget(3);
                return c;
            };
            ClauseCourt once = make.get();
            once.solve(5000);
            String wanted = figures(once);
            for (int steps = 40; steps <= 240; steps += 25) {
                ClauseCourt c = make.get();
                c.solve(steps);
                c.solve(5000);
                edge.is("begin(" + begin + "), behind solve(" + steps + ")", wanted, figures(c));
            }
        }
    }

    private static void useBeginsAnew() {
        edge.of("30", "the NEW ROW comes as the next LEARNT ROW, USE 0");
        for (int told = 1; told <= 8; told++) {
            int forget = told;
            ClauseCourt once = Scenes.pigeons(5, 4);
            once.begin(1);
            once.forget(forget);
            once.solve(5000);
            ClauseCourt twice = Scenes.pigeons(5, 4);
            twice.solve(5000);
            twice.begin(1);
            twice.forget(forget);
            twice.solve(5000);
            edge.is("forget(" + forget + ") behind a SOLVING without it", figures(once), figures(twice));
        }
    }

    /** Which ones go is seen by what comes behind it alone: so it is compared with the document's second writing. */
    private static void forgettingByUse() {
        edge.of("30", "in order of USE, the least first, of like ones by numbers; then USE of each that stays becomes half");
        for (int forget = 1; forget <= 12; forget++) {
            for (int begin = 0; begin <= 2; begin++) {
                ClauseCourt c = Scenes.pigeons(5, 4);
                PlainCourt plain = Scenes.plainPigeons(5, 4);
                c.begin(begin);
                plain.begin(begin);
                c.forget(forget);
                plain.forget(forget);
                edge.is("solve", plain.solve(5000), c.solve(5000));
                for (int what = 0; what <= 9; what++) {
                    edge.is("forget(" + forget + "), begin(" + begin + "), solved(" + what + ")", plain.solved(what), c.solved(what));
                }
                for (int n = 1; n <= 20; n++) {
                    edge.is("weighs(" + n + ")", plain.weighs(n), c.weighs(n));
                }
            }
        }
    }

    private static void undoneWhicheverWay() {
        edge.of("31", "What was tried is undone whichever way it ends");
        for (int steps = 1; steps <= 5; steps++) {
            ClauseCourt c = court(2, row(1, 2), row(1, -2), row(-1, 2), row(-1, -2));
            c.solve(steps);
            edge.is("the next SOLVING is as the first", 0, c.solve(5));
            edge.is("solved", "0 5 3 1 1 0 0 1 2 1", Hand.solved(c));
            edge.is("forced() is not touched by it", 0, c.forced());
        }
    }
}
