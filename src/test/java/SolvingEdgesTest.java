import java.util.LinkedHashMap;
import java.util.Map;
import java.util.function.Supplier;
import java.util.function.ToLongFunction;

/** Promises 25 to 35, sentence by sentence: what SOLVING is told, what ends it, and what is told of it. */
public final class SolvingEdgesTest {
    private static final int BAD = ClauseCourt.BAD;
    private static final int STATE = ClauseCourt.STATE;
    private static final int FULL = ClauseCourt.FULL;
    private static final int SPENT = ClauseCourt.SPENT;
    private static final int NONE = ClauseCourt.NONE;
    private static final int NOTHING = ClauseCourt.NOTHING;
    private static final int BEYOND = ClauseCourt.BEYOND;
    private static final int MIN = Integer.MIN_VALUE;
    private static final int MAX = Integer.MAX_VALUE;
    private static final int[] NO_NAMES = {0, -1, -14, 15, 300, 301, MIN, MAX};
    private static final int[] NO_STEPS = {0, -1, 5001, MIN, MAX};
    private static final Edge edge = new Edge("SolvingEdgesTest");

    public static void main(String[] args) {
        assumes();
        assumeRefused();
        assumeFull();
        frees();
        weights();
        weighs();
        begins();
        forgets();
        solves();
        stepsAreCounted();
        goOnRefused();
        goOnIsAsIfNotCut();
        whatMakesGoOnImpossible();
        whatLeavesGoOn();
        besideTheLatest();
        truths();
        solvedFigures();
        quarrels();
        quarrelsOfNo();
        edge.end();
    }

    private static void assumes() {
        edge.of("25", "An ITEM is ASSUMED, behind others: how many are");
        ClauseCourt c = Hand.withNames(300);
        edge.is("assume(300)", 1, c.assume(300));
        edge.is("assume(-299)", 2, c.assume(-299));
        edge.is("assume(-300), its CONTRARY", 3, c.assume(-300));
        edge.is("assume(1)", 4, c.assume(1));
        edge.is("about(4)", 4, c.about(4));
        edge.is("the first two that quarrel", 0, c.solve(10));
        edge.is("in their order", "300 -300", Hand.core(c, 1));
    }

    private static void assumeRefused() {
        edge.of("25", "BEYOND; NOTHING");
        for (int v : new int[] {0, 301, -301, MIN, MAX}) {
            edge.refusedAnywhere("assume(" + v + ")", BEYOND, c -> c.assume(v));
        }
        for (int v : new int[] {15, -15, 300, -300}) {
            edge.refusedAnywhere("assume(" + v + ")", NOTHING, c -> c.assume(v));
        }
        edge.refused("assume(1) of a new one", NOTHING, ClauseCourt::new, c -> c.assume(1));
        edge.of("25", "STATE: it is");
        edge.refusedInScenes("assume(3)", STATE, c -> c.assume(3));
        edge.refused("assume(4)", STATE, Scenes::no, c -> c.assume(4));
    }

    private static ClauseCourt assumed(int so) {
        ClauseCourt c = Hand.withNames(30);
        for (int n = 1; n <= so; n++) {
            c.assume(n % 2 == 0 ? -n : n);
        }
        return c;
    }

    private static void assumeFull() {
        edge.of("25", "FULL: 20");
        edge.is("the 20th", 20, assumed(19).assume(30));
        edge.refused("the 21st", FULL, () -> assumed(20), c -> c.assume(30));
        edge.refused("a CONTRARY as the 21st", FULL, () -> assumed(20), c -> c.assume(-1));
        edge.refused("BEYOND ahead of FULL", BEYOND, () -> assumed(20), c -> c.assume(0));
        edge.refused("BEYOND ahead of FULL", BEYOND, () -> assumed(20), c -> c.assume(-301));
        edge.refused("NOTHING ahead of FULL", NOTHING, () -> assumed(20), c -> c.assume(31));
        edge.refused("STATE ahead of FULL", STATE, () -> assumed(20), c -> c.assume(-20));
    }

    private static void frees() {
        edge.of("26", "None is ASSUMED: how many were");
        edge.is("free() of none", 0, new ClauseCourt().free());
        ClauseCourt c = assumed(20);
        edge.is("free() of 20", 20, c.free());
        edge.is("about(4)", 0, c.about(4));
        edge.is("free() once more", 0, c.free());
        edge.is("there is room again", 1, c.assume(1));
        edge.is("one that was may be again", 2, c.assume(-2));
        edge.is("status()", 0, c.status());
    }

    private static void weights() {
        edge.of("27", "The WEIGHT with which a NAME begins: what it was");
        ClauseCourt c = Hand.withNames(300);
        for (int n : new int[] {1, 300}) {
            edge.is("weight(" + n + ", 1000)", 0, c.weight(n, 1000));
            edge.is("weight(" + n + ", 0)", 1000, c.weight(n, 0));
            edge.is("weight(" + n + ", 1)", 0, c.weight(n, 1));
            edge.is("weight(" + n + ", 1)", 1, c.weight(n, 1));
        }
        edge.of("27", "BAD: n, w not 0 .. 1000");
        for (int n : NO_NAMES) {
            edge.refusedAnywhere("weight(" + n + ", 1)", BAD, d -> d.weight(n, 1));
        }
        for (int w : new int[] {-1, 1001, MIN, MAX}) {
            edge.refusedInScenes("weight(2, " + w + ")", BAD, d -> d.weight(2, w));
            edge.refusedAnywhere("weight(0, " + w + ")", BAD, d -> d.weight(0, w));
        }
        edge.of("27", "of the open NAMES that with the greatest WEIGHT (of like ones the least) is DECIDED");
        int[][] told = {{0, 0, 0}, {0, 1, 0}, {0, 0, 1}, {5, 5, 5}, {5, 6, 6}, {1000, 999, 1000}, {999, 999, 1000}};
        int[] first = {1, 2, 3, 1, 2, 1, 3};
        for (int i = 0; i < told.length; i++) {
            edge.is("the one DECIDED first, with weights " + i, first[i], firstDecided(told[i]));
        }
    }

    /** ROWS 1 2, 1 3 and 2 3: the first that is DECIDED is 0, and both others are then FORCED. */
    private static int firstDecided(int... weights) {
        ClauseCourt c = Hand.withNames(3);
        Hand.clause(c, 1, 2);
        Hand.clause(c, 1, 3);
        Hand.clause(c, 2, 3);
        for (int n = 1; n <= 3; n++) {
            c.weight(n, weights[n - 1]);
        }
        c.solve(3);
        return c.truth(1) == 0 ? 1 : c.truth(2) == 0 ? 2 : c.truth(3) == 0 ? 3 : -1;
    }

    private static void weighs() {
        edge.of("28", "BAD");
        for (int n : NO_NAMES) {
            edge.refusedAnywhere("weighs(" + n + ")", BAD, c -> c.weighs(n));
        }
        edge.of("28", "as the latest SOLVING left it (0 ahead of one; of a NAME that came since 0)");
        ClauseCourt c = learns();
        c.weight(1, 9);
        edge.is("ahead of SOLVING", 0, c.weighs(1));
        c.solve(2);
        edge.is("ahead of LEARNING", 9, c.weighs(1));
        c.goOn(1);
        edge.is("behind it", 73, c.weighs(1));
        edge.is("of the other NAME", 64, c.weighs(2));
        c.weight(1, 500);
        c.names(2);
        c.weight(3, 7);
        edge.is("weight() is for the next one", 73, c.weighs(1));
        edge.is("of a NAME that came since", 0, c.weighs(3));
        c.count(9, 100);
        edge.is("count() leaves it", 73, c.weighs(1));
        c.solve(1);
        edge.is("the next one begins with what was told", 500, c.weighs(1));
        edge.is("of that NAME, too", 7, c.weighs(3));
        edge.is("and of one without", 0, c.weighs(4));
    }

    private static void begins() {
        edge.of("29", "What it was (0 at first). BAD: not 0 .. 100");
        ClauseCourt c = new ClauseCourt();
        edge.is("begin(100)", 0, c.begin(100));
        edge.is("begin(1)", 100, c.begin(1));
        edge.is("begin(0)", 1, c.begin(0));
        edge.is("begin(0)", 0, c.begin(0));
        for (int u : new int[] {-1, 101, MIN, MAX}) {
            edge.refusedAnywhere("begin(" + u + ")", BAD, d -> d.begin(u));
        }
    }

    private static void forgets() {
        edge.of("30", "What it was (0 at first). BAD: not 0 .. 800");
        ClauseCourt c = new ClauseCourt();
        edge.is("forget(800)", 0, c.forget(800));
        edge.is("forget(1)", 800, c.forget(1));
        edge.is("forget(0)", 1, c.forget(0));
        edge.is("forget(0)", 0, c.forget(0));
        for (int m : new int[] {-1, 801, MIN, MAX}) {
            edge.refusedAnywhere("forget(" + m + ")", BAD, d -> d.forget(m));
        }
    }

    private static void solves() {
        edge.of("31", "BAD: not 1 .. 5000");
        for (int steps : NO_STEPS) {
            edge.refusedAnywhere("solve(" + steps + ")", BAD, c -> c.solve(steps));
        }
        edge.of("31", "SOLVING: 1 YES, 0 NO, SPENT");
        edge.is("without NAMES and ROWS", 1, new ClauseCourt().solve(1));
        edge.is("solve(5000)", 1, new ClauseCourt().solve(5000));
        edge.is("one NAME", 1, Hand.withNames(1).solve(1));
        edge.is("two NAMES", SPENT, Hand.withNames(2).solve(1));
        ClauseCourt c = Hand.withNames(300);
        edge.is("300 NAMES, one STEP too few", SPENT, c.solve(299));
        edge.is("300 NAMES", 1, c.solve(300));
        edge.is("their TRUTHS are 0 at first", 0, c.truth(1) + c.truth(300));
        edge.is("the greatest LEVEL", 300, c.solved(9));
        edge.is("SPENT is no matter of status()", 0, c.status());
        edge.of("31", "SOLVING without BARRED ROWS");
        ClauseCourt d = Hand.withNames(1);
        d.next(10);
        edge.is("next() finds no more", 0, d.next(10));
        edge.is("solve() is not barred", 1, d.solve(1));
    }

    /** Each with how many STEPS it takes, by what it says. */
    private static Map<String, Supplier<ClauseCourt>> cases() {
        Map<String, Supplier<ClauseCourt>> cases = new LinkedHashMap<>();
        cases.put("YES with LEARNING", SolvingEdgesTest::learns);
        cases.put("NO by b)", SolvingEdgesTest::square);
        cases.put("NO by d)", SolvingEdgesTest::assumedWrongly);
        cases.put("pigeons", () -> Scenes.pigeons(4, 3));
        cases.put("pigeons, BEGINNING ANEW and FORGETTING", () -> {
            ClauseCourt c = Scenes.pigeons(4, 3);
            c.begin(1);
            c.forget(2);
            return c;
        });
        return cases;
    }

    private static ClauseCourt learns() {
        ClauseCourt c = Hand.withNames(2);
        Hand.clause(c, 1, 2);
        Hand.clause(c, 1, -2);
        return c;
    }

    private static ClauseCourt square() {
        ClauseCourt c = learns();
        Hand.clause(c, -1, 2);
        Hand.clause(c, -1, -2);
        return c;
    }

    /** 4 is FORCED, 3 and 1 are DECIDED, 2 is FORCED: and -2 is ASSUMED. */
    private static ClauseCourt assumedWrongly() {
        ClauseCourt c = Hand.withNames(4);
        Hand.clause(c, 4);
        Hand.clause(c, -1, 2, -4);
        c.assume(3);
        c.assume(1);
        c.assume(-2);
        return c;
    }

    private static String figures(ClauseCourt c) {
        StringBuilder text = new StringBuilder(Hand.solved(c)).append(" / ").append(Hand.quarrel(c));
        for (int n = 1; n <= 12; n++) {
            text.append(' ').append(c.weighs(n));
        }
        for (int k = 0; k < 6; k++) {
            text.append(" / ").append(Hand.line(c, 2000 + k));
        }
        return text.toString();
    }

    private static void stepsAreCounted() {
        edge.of("31", "Each ITEM that is FORCED or DECIDED, and each LEARNING, is a STEP. Ahead of one more than were given: SPENT");
        int[] steps = {5, 5, 4, -1, -1};
        int[] said = {1, 0, 0, 0, 0};
        int at = 0;
        for (Map.Entry<String, Supplier<ClauseCourt>> one : cases().entrySet()) {
            ClauseCourt whole = one.getValue().get();
            edge.is(one.getKey(), said[at], whole.solve(5000));
            int all = whole.solved(1);
            edge.is("STEPS of " + one.getKey(), steps[at] < 0 ? all : steps[at], all);
            edge.is("they are", all, whole.solved(2) + whole.solved(3) + whole.solved(4));
            for (int given = 1; given <= all; given++) {
                ClauseCourt c = one.getValue().get();
                edge.is(one.getKey() + ", solve(" + given + ")", given < all ? SPENT : said[at], c.solve(given));
                edge.is("its STEPS", given, c.solved(1));
                edge.is("its parts", given, c.solved(2) + c.solved(3) + c.solved(4));
            }
            at++;
        }
    }

    private static void goOnRefused() {
        edge.of("32", "BAD; STATE");
        for (int steps : NO_STEPS) {
            edge.refusedAnywhere("goOn(" + steps + ")", BAD, c -> c.goOn(steps));
        }
        edge.of("32", "STATE: the latest SOLVING, by solve() or goOn(), that was SPENT");
        edge.refused("ahead of SOLVING", STATE, ClauseCourt::new, c -> c.goOn(1));
        edge.refused("behind YES", STATE, Scenes::yes, c -> c.goOn(1));
        edge.refused("behind NO by d)", STATE, Scenes::no, c -> c.goOn(5000));
        edge.refused("behind NO by b)", STATE, Scenes::lost, c -> c.goOn(1));
        edge.refused("behind YES of next()", STATE, Scenes::byNext, c -> c.goOn(1));
        edge.refused("behind NO of next()", STATE, Scenes::lostByNext, c -> c.goOn(1));
        edge.refused("behind SPENT of next()", STATE, Scenes::spentByNext, c -> c.goOn(1));
        ClauseCourt full = Scenes.full();
        String before = Hand.solved(full) + Hand.quarrel(full) + full.weighs(1) + full.digest();
        edge.is("behind FULL", STATE, full.goOn(5000));
        edge.is("status() behind it", STATE, full.status());
        edge.is("what must not have changed", before, Hand.solved(full) + Hand.quarrel(full) + full.weighs(1) + full.digest());
        edge.of("32", "by solve() or goOn()");
        ClauseCourt c = square();
        edge.is("solve(1)", SPENT, c.solve(1));
        edge.is("goOn(1)", SPENT, c.goOn(1));
        edge.is("goOn(1), as goOn() was SPENT", SPENT, c.goOn(1));
        edge.is("goOn(2)", 0, c.goOn(2));
        edge.is("goOn(1) behind NO of goOn()", STATE, c.goOn(1));
    }

    private static void goOnIsAsIfNotCut() {
        edge.of("32", "goOn() goes on from there, as if it had not been cut; goes on in solved(), too");
        for (Map.Entry<String, Supplier<ClauseCourt>> one : cases().entrySet()) {
            ClauseCourt whole = one.getValue().get();
            int said = whole.solve(5000);
            int all = whole.solved(1);
            String wanted = figures(whole);
            for (int first = 1; first < all; first++) {
                ClauseCourt c = one.getValue().get();
                c.solve(first);
                edge.is(one.getKey() + ", one too few behind " + first, all - first > 1 ? SPENT : said,
                        c.goOn(Math.max(all - first - 1, 1)));
                if (all - first > 1) {
                    edge.is(one.getKey() + ", the last behind " + first, said, c.goOn(1));
                }
                edge.is(one.getKey() + ", figures behind " + first, wanted, figures(c));
            }
        }
    }

    /** Calls that lay or tell something, though some of them change nothing; TAPE has x3 in these scenes. */
    private static Map<String, ToLongFunction<ClauseCourt>> enders() {
        Map<String, ToLongFunction<ClauseCourt>> calls = new LinkedHashMap<>();
        calls.put("names(0)", c -> c.names(0));
        calls.put("names(1)", c -> c.names(1));
        calls.put("clause", c -> c.clause(0));
        calls.put("a CLAUSE without ITEMS", c -> c.clause(1));
        calls.put("atMost", c -> c.atMost(0, 1));
        calls.put("an ATMOST laid as no ROW", c -> c.atMost(1, 0));
        calls.put("group", c -> c.group(0, 1));
        calls.put("a GROUP laid as no ROW", c -> c.group(1, 0));
        calls.put("parity", c -> c.parity(0, true));
        calls.put("a PARITY laid as no ROW", c -> c.parity(1, false));
        calls.put("told", c -> c.told());
        calls.put("assume", c -> c.assume(1));
        calls.put("free", c -> c.free());
        calls.put("weight", c -> c.weight(1, 5));
        calls.put("weight as it was", c -> c.weight(2, 7));
        calls.put("begin", c -> c.begin(4));
        calls.put("begin as it was", c -> c.begin(3));
        calls.put("forget", c -> c.forget(8));
        calls.put("forget as it was", c -> c.forget(9));
        calls.put("next", c -> c.next(5000));
        return calls;
    }

    private static void whatMakesGoOnImpossible() {
        edge.of("32", "Any call that lays or tells .. and is not refused (also one that changes nothing) makes goOn() impossible");
        enders().forEach((what, call) -> {
            ClauseCourt c = Scenes.spent();
            String before = figures(c);
            edge.is(what + " is not refused", 1, call.applyAsLong(c) >= 0 ? 1 : 0);
            if (!what.equals("next")) {
                edge.is(what + " leaves the figures", before, figures(c));
            }
            edge.is("goOn() behind " + what, STATE, c.goOn(5000));
            edge.is("status()", STATE, c.status());
        });
        ClauseCourt c = Hand.withNames(3);
        c.solve(1);
        edge.is("free() of none", 0, c.free());
        edge.is("goOn() behind it", STATE, c.goOn(10));
        c.solve(1);
        edge.is("goOn() of the next SOLVING", 1, c.goOn(10));
    }

    /** Calls that are neither refused nor of what SOLVING is told. */
    private static Map<String, ToLongFunction<ClauseCourt>> others() {
        Map<String, ToLongFunction<ClauseCourt>> calls = new LinkedHashMap<>();
        calls.put("row", c -> c.row(0, 3));
        calls.put("drop", c -> c.drop(0));
        calls.put("put", c -> c.put(0, 0, 3));
        calls.put("get", c -> c.get(0, 0));
        calls.put("copy", c -> c.copy(0, 0, 2, 0, 3));
        calls.put("cut", c -> c.cut(0, 1));
        calls.put("feed", c -> c.feed(0, 8));
        calls.put("wipe", c -> c.wipe());
        calls.put("a FAULT", c -> c.feed('?', 1) > 0 ? c.told() : 0);
        calls.put("kind", c -> c.kind(0));
        calls.put("as", c -> c.as(0, 0));
        calls.put("item", c -> c.item(0, 0));
        calls.put("rows", c -> c.rows(0, 0));
        calls.put("line", c -> c.line(0, 0));
        calls.put("ask", c -> c.ask(0, 1));
        calls.put("print", c -> c.print(0));
        calls.put("export", c -> c.export());
        calls.put("out", c -> c.out(0));
        calls.put("weighs", c -> c.weighs(1));
        calls.put("solved", c -> c.solved(0));
        calls.put("quarrel", c -> c.quarrel(0));
        calls.put("claim", c -> c.claim(0));
        calls.put("strike", c -> c.strike(0));
        calls.put("proof", c -> c.proof(0, 0));
        calls.put("check", c -> c.check());
        calls.put("refusedAt", c -> c.refusedAt());
        calls.put("counted", c -> c.counted(2, true));
        calls.put("not counted", c -> c.counted(1, false));
        calls.put("unbar", c -> c.unbar());
        calls.put("count", c -> c.count(64, 5000));
        calls.put("a count that is SPENT", c -> c.count(64, 1));
        calls.put("forced", c -> c.forced());
        calls.put("forcedAt", c -> c.forcedAt(0));
        calls.put("why", c -> c.why(1));
        calls.put("trace", c -> c.trace(0));
        calls.put("digest", c -> c.digest());
        calls.put("status", c -> c.status());
        calls.put("about", c -> c.about(0));
        return calls;
    }

    private static void whatLeavesGoOn() {
        edge.of("32", "all stays as it is, and goOn() goes on from there");
        ClauseCourt whole = Scenes.spent();
        String before = figures(whole);
        int said = whole.goOn(5000);
        String wanted = figures(whole);
        others().forEach((what, call) -> {
            ClauseCourt c = Scenes.spent();
            call.applyAsLong(c);
            edge.is(what + " leaves what is told of SOLVING", before, figures(c));
            edge.is("goOn() behind " + what, said, c.goOn(5000));
            edge.is("figures behind " + what, wanted, figures(c));
        });
    }

    private static void besideTheLatest() {
        edge.of("34", "what shrink(), least(), count() do is beside it and leaves it alone");
        for (Map.Entry<String, Supplier<ClauseCourt>> scene : Scenes.all().entrySet()) {
            ClauseCourt c = scene.getValue().get();
            String before = figures(c);
            c.count(64, 5000);
            c.count(1, 1);
            edge.is("count() behind " + scene.getKey(), before, figures(c));
            c.shrink(1);
            c.shrink(5000);
            edge.is("shrink() behind " + scene.getKey(), before, figures(c));
            c.least(5);
            c.least(5000);
            edge.is("least() behind " + scene.getKey(), before, figures(c));
        }
    }

    private static void truths() {
        edge.of("33", "BAD; STATE: the latest SOLVING did not say YES; NONE: the NAME came since it began");
        for (int n : NO_NAMES) {
            edge.refusedAnywhere("truth(" + n + ")", BAD, c -> c.truth(n));
        }
        edge.refused("ahead of SOLVING", STATE, () -> Hand.withNames(2), c -> c.truth(1));
        edge.refused("SPENT", STATE, Scenes::spent, c -> c.truth(1));
        edge.refused("NO by d)", STATE, Scenes::no, c -> c.truth(14));
        edge.refused("NO by b)", STATE, Scenes::lost, c -> c.truth(1));
        edge.refused("NO of next()", STATE, Scenes::lostByNext, c -> c.truth(1));
        edge.refused("SPENT of next()", STATE, Scenes::spentByNext, c -> c.truth(1));
        ClauseCourt full = Scenes.full();
        edge.is("FULL", STATE, full.truth(1));
        edge.is("status()", STATE, full.status());
        edge.leaves("a NAME that came since", NONE, () -> more(Scenes.yes()), c -> c.truth(15));
        edge.leaves("a NAME that came since next()", NONE, () -> more(Scenes.byNext()), c -> c.truth(15));
        edge.refused("STATE ahead of NONE", STATE, () -> more(Scenes.no()), c -> c.truth(15));
        edge.refused("BAD ahead of STATE", BAD, () -> more(Scenes.no()), c -> c.truth(16));
        edge.is("the last that was there", 1, more(Scenes.yes()).truth(14) >= 0 ? 1 : 0);
        ClauseCourt c = Scenes.yes();
        edge.is("what was ASSUMED", 1, c.truth(3));
        c.free();
        c.assume(-3);
        edge.is("TRUTHS stay, whatever is told since", 1, c.truth(3));
    }

    private static ClauseCourt more(ClauseCourt c) {
        c.names(1);
        return c;
    }

    private static void solvedFigures() {
        edge.of("34", "BAD");
        for (int what : new int[] {-1, 10, MIN, MAX}) {
            edge.refusedAnywhere("solved(" + what + ")", BAD, c -> c.solved(what));
        }
        edge.of("34", "0 what it said (NONE ahead of one)");
        edge.leaves("solved(0) ahead of one", NONE, ClauseCourt::new, c -> c.solved(0));
        for (int what = 1; what <= 9; what++) {
            int one = what;
            edge.leaves("solved(" + what + ") ahead of one", 0, ClauseCourt::new, c -> c.solved(one));
        }
        edge.leaves("SPENT", SPENT, Scenes::spent, c -> c.solved(0));
        edge.leaves("YES", 1, Scenes::yes, c -> c.solved(0));
        edge.leaves("NO", 0, Scenes::no, c -> c.solved(0));
        edge.leaves("YES of next()", 1, Scenes::byNext, c -> c.solved(0));
        edge.is("FULL", FULL, Scenes.full().solved(0));
        edge.of("34", "1 STEPS, 2 FORCED, 3 DECIDED, 4 LEARNINGS, 5 .., 6 .., 7 .., 8 ROWS of the RECORD, 9 the greatest LEVEL");
        ClauseCourt c = square();
        String[] told = {"-1004 1 0 1 0 0 0 0 0 1", "-1004 2 1 1 0 0 0 0 0 1", "-1004 3 1 1 1 0 0 1 1 1", "-1004 4 2 1 1 0 0 1 1 1",
            "0 5 3 1 1 0 0 1 2 1"};
        for (int i = 0; i < told.length; i++) {
            if (i == 0) {
                c.solve(1);
            } else {
                c.goOn(1);
            }
            edge.is("behind STEP " + (i + 1), told[i], Hand.solved(c));
        }
        c.solve(1);
        edge.is("the next one begins at 0", told[0], Hand.solved(c));
    }

    private static void quarrels() {
        edge.of("35", "BAD; NONE");
        for (int what : new int[] {-1, 5, MIN, MAX}) {
            edge.refusedAnywhere("quarrel(" + what + ")", BAD, c -> c.quarrel(what));
        }
        for (int what = 0; what <= 4; what++) {
            int one = what;
            edge.leaves("ahead of SOLVING", NONE, ClauseCourt::new, c -> c.quarrel(one));
            edge.leaves("without a QUARREL", NONE, () -> solved(Hand.withNames(2), 10), c -> c.quarrel(one));
            edge.leaves("with one that was not learnt from yet", NONE, () -> solved(learns(), 2), c -> c.quarrel(one));
            edge.leaves("NO by d) without one", NONE, () -> solved(assumedWrongly(), 10), c -> c.quarrel(one));
        }
        edge.of("35", "0 its ROW, 1 its LEVEL, 2 the LEVEL behind it, 3 NAMES that had RISE, 4 ITEMS of the NEW ROW");
        edge.is("the one that was learnt from", "1 1 0 2 1", Hand.quarrel(solved(learns(), 3)));
        ClauseCourt c = solved(learns(), 5);
        c.assume(2);
        c.solve(1);
        edge.is("the next SOLVING has none yet", NONE, c.quarrel(0));
    }

    private static ClauseCourt solved(ClauseCourt c, int steps) {
        c.solve(steps);
        return c;
    }

    private static void quarrelsOfNo() {
        edge.of("35", "or said NO: (2 .. 4: 0 of NO)");
        edge.is("NO by b)", "3 0 0 0 0", Hand.quarrel(solved(square(), 5)));
        edge.is("a STEP ahead of it", "1 1 0 2 1", Hand.quarrel(solved(square(), 4)));
        ClauseCourt c = Hand.withNames(1);
        Hand.clause(c, 1);
        Hand.clause(c);
        edge.is("a ROW without ITEMS", "1 0 0 0 0", Hand.quarrel(solved(c, 1)));
        edge.is("no STEP was taken", 0, c.solved(1));
        ClauseCourt d = learns();
        d.assume(-1);
        edge.is("NO by d) behind a LEARNING", 0, d.solve(10));
        edge.is("the QUARREL learnt from", "1 1 0 2 1", Hand.quarrel(d));
        ClauseCourt e = Hand.withNames(1);
        e.next(10);
        e.next(10);
        edge.is("a BARRED ROW", "1000 0 0 0 0", Hand.quarrel(e));
    }
}
