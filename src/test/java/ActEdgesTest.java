import java.util.Map;
import java.util.function.Supplier;

/** ACTS of RULES, OUT, TRACE and promises 16 to 24 and 53, sentence by sentence. */
public final class ActEdgesTest {
    private static final int BAD = ClauseCourt.BAD;
    private static final int STATE = ClauseCourt.STATE;
    private static final int NONE = ClauseCourt.NONE;
    private static final int CAST = ClauseCourt.CAST;
    private static final int MIN = Integer.MIN_VALUE;
    private static final int MAX = Integer.MAX_VALUE;
    private static final int[] NO_RULES = {-1, 60, MIN, MAX};
    private static final Edge edge = new Edge("ActEdgesTest");

    public static void main(String[] args) {
        rulesRefused();
        rulesOfSixty();
        kinds();
        casts();
        items();
        rows();
        lines();
        linesOfBarred();
        linesOfLearnt();
        linesOfThoseThatWent();
        asksRefused();
        holdsInState();
        leastAndMost();
        laid();
        prints();
        printsAreTraced();
        exports();
        exportsMuch();
        outs();
        traces();
        traceKeepsHundred();
        edge.end();
    }

    /** Each call that is of a RULE: BAD without one, whatever else it is told. */
    private static void rulesRefused() {
        for (int rule : NO_RULES) {
            noRule(rule);
        }
        for (Map.Entry<String, Supplier<ClauseCourt>> scene : Scenes.all().entrySet()) {
            int next = scene.getValue().get().about(1);
            edge.of("16", "BAD");
            edge.refused("kind(" + next + ") of " + next, BAD, scene.getValue(), c -> c.kind(next));
            edge.of("17", "BAD");
            edge.refused("as(" + next + ", 0) of " + next, BAD, scene.getValue(), c -> c.as(next, 0));
            edge.of("18", "BAD");
            edge.refused("item(" + next + ", 0) of " + next, BAD, scene.getValue(), c -> c.item(next, 0));
            edge.of("19", "BAD");
            edge.refused("rows(" + next + ", 0) of " + next, BAD, scene.getValue(), c -> c.rows(next, 0));
            edge.of("21", "BAD");
            edge.refused("ask(" + next + ", 0) of " + next, BAD, scene.getValue(), c -> c.ask(next, 0));
            edge.of("22", "BAD");
            edge.refused("print(" + next + ") of " + next, BAD, scene.getValue(), c -> c.print(next));
        }
    }

    private static ClauseCourt sixty() {
        ClauseCourt c = Hand.withNames(1);
        Hand.paper(c, 0, 1);
        for (int i = 0; i < 60; i++) {
            c.clause(0);
        }
        return c;
    }

    private static void rulesOfSixty() {
        edge.of("16", "RULES, 60 at most, are numbered from 0 on");
        edge.is("kind(59)", 0, sixty().kind(59));
        edge.is("item(59, 0)", 1, sixty().item(59, 0));
        edge.is("rows(59, 0)", 59, sixty().rows(59, 0));
        edge.is("ask(59, 3)", 1, sixty().ask(59, 3));
        edge.is("print(59)", "some(1)".length(), sixty().print(59));
        edge.refused("kind(60)", BAD, ActEdgesTest::sixty, c -> c.kind(60));
        edge.refused("as(60, 0)", BAD, ActEdgesTest::sixty, c -> c.as(60, 0));
        edge.refused("item(60, 0)", BAD, ActEdgesTest::sixty, c -> c.item(60, 0));
        edge.refused("rows(60, 0)", BAD, ActEdgesTest::sixty, c -> c.rows(60, 0));
        edge.refused("ask(60, 1)", BAD, ActEdgesTest::sixty, c -> c.ask(60, 1));
        edge.refused("print(60)", BAD, ActEdgesTest::sixty, c -> c.print(60));
    }

    private static void noRule(int rule) {
        edge.of("16", "BAD");
        edge.refusedAnywhere("kind(" + rule + ")", BAD, c -> c.kind(rule));
        edge.of("17", "BAD: also the KIND; CAST");
        edge.refusedAnywhere("as(" + rule + ", 0)", BAD, c -> c.as(rule, 0));
        edge.refusedAnywhere("as(" + rule + ", 5)", BAD, c -> c.as(rule, 5));
        edge.of("18", "BAD; NONE");
        edge.refusedAnywhere("item(" + rule + ", -1)", BAD, c -> c.item(rule, -1));
        edge.refusedAnywhere("BAD ahead of NONE: item(" + rule + ", 99)", BAD, c -> c.item(rule, 99));
        edge.of("19", "BAD; NONE");
        edge.refusedAnywhere("rows(" + rule + ", 0)", BAD, c -> c.rows(rule, 0));
        edge.refusedAnywhere("BAD ahead of NONE: rows(" + rule + ", -1)", BAD, c -> c.rows(rule, -1));
        edge.of("21", "BAD; STATE");
        for (int act = -1; act <= 4; act++) {
            int one = act;
            edge.refusedAnywhere("ask(" + rule + ", " + act + ")", BAD, c -> c.ask(rule, one));
        }
        edge.of("22", "BAD");
        edge.refusedAnywhere("print(" + rule + ")", BAD, c -> c.print(rule));
    }

    private static void kinds() {
        edge.of("16", "0 CLAUSE; 1 ATMOST; 2 GROUP; 3 PARITY; 4 TOLD");
        for (int kind = 0; kind < 5; kind++) {
            int rule = kind;
            edge.leavesInScenes("kind(" + rule + ")", rule, c -> c.kind(rule));
        }
    }

    private static void casts() {
        edge.of("17", "ATMOST (it is a CLAUSE, too); GROUP (an ATMOST, too); TOLD (a CLAUSE, too); CAST");
        boolean[][] are = {{true, false, false, false, false}, {true, true, false, false, false}, {true, true, true, false, false},
            {false, false, false, true, false}, {true, false, false, false, true}};
        for (int rule = 0; rule < 5; rule++) {
            for (int kind = 0; kind < 5; kind++) {
                cast(rule, kind, are[rule][kind]);
            }
        }
        edge.of("17", "BAD: also the KIND");
        for (int kind : new int[] {-1, 5, MIN, MAX}) {
            edge.refusedAnywhere("as(0, " + kind + ")", BAD, c -> c.as(0, kind));
            edge.refusedInScenes("as(3, " + kind + ")", BAD, c -> c.as(3, kind));
        }
    }

    /** status() is 0 ahead of it, so that CAST can be seen to come. */
    private static void cast(int rule, int kind, boolean is) {
        ClauseCourt c = Hand.withNames(3);
        Hand.paper(c, 0, 1, 2);
        c.clause(0);
        c.atMost(0, 1);
        c.group(0, 1);
        c.parity(0, true);
        Hand.told(c, "x1");
        edge.is("as(" + rule + ", " + kind + ")", is ? 1 : CAST, c.as(rule, kind));
        edge.is("status() behind it", is ? 0 : CAST, c.status());
        if (is) {
            edge.leavesInScenes("as(" + rule + ", " + kind + ")", 1, d -> d.as(rule, kind));
        } else {
            edge.refusedInScenes("as(" + rule + ", " + kind + ")", CAST, d -> d.as(rule, kind));
        }
    }

    private static void items() {
        edge.of("18", "ITEM i (from 0); i = -1: n. NONE");
        edge.leavesInScenes("item(0, -1)", 3, c -> c.item(0, -1));
        edge.leavesInScenes("item(0, 0)", 1, c -> c.item(0, 0));
        edge.leavesInScenes("item(0, 2)", 3, c -> c.item(0, 2));
        edge.leavesInScenes("item(2, 1)", -5, c -> c.item(2, 1));
        for (int i : new int[] {-2, 3, 12, MIN, MAX}) {
            edge.leavesInScenes("item(0, " + i + ")", NONE, c -> c.item(0, i));
        }
        ClauseCourt c = Hand.withNames(12);
        edge.is("a RULE without ITEMS", 0, Hand.clause(c));
        edge.is("item(0, -1)", 0, c.item(0, -1));
        edge.is("item(0, 0)", NONE, c.item(0, 0));
        edge.is("a RULE of 12", 1, Hand.clause(c, 1, 2, 3, 4, 5, 6, 7, 8, 9, 10, 11, -12));
        edge.is("item(1, 11)", -12, c.item(1, 11));
        edge.is("item(1, 12)", NONE, c.item(1, 12));
        c.put(39, 11, 5);
        edge.is("a RULE's ITEMS stay when its ROW changes", -12, c.item(1, 11));
        c.drop(39);
        edge.is("or is dropped", 12, c.item(1, -1));
    }

    private static void rows() {
        edge.of("19", "The number of the k-th ROW (from 0) that it was laid as. NONE");
        int[] from = {0, 1, 8, 16, 21, 25};
        for (int rule = 0; rule < 5; rule++) {
            int one = rule;
            int laid = from[rule + 1] - from[rule];
            edge.leavesInScenes("rows(" + rule + ", 0)", from[rule], c -> c.rows(one, 0));
            edge.leavesInScenes("the last", from[rule + 1] - 1, c -> c.rows(one, laid - 1));
            for (int k : new int[] {-1, laid, MIN, MAX}) {
                edge.leavesInScenes("rows(" + rule + ", " + k + ")", NONE, c -> c.rows(one, k));
            }
        }
        ClauseCourt c = Hand.withNames(1);
        Hand.paper(c, 0, 1);
        c.atMost(0, 1);
        edge.is("one that is laid as no ROW", NONE, c.rows(0, 0));
        c.clause(0);
        edge.is("the next RULE", 0, c.rows(1, 0));
        edge.is("the one ahead of it", NONE, c.rows(0, 0));
    }

    private static void lines() {
        edge.of("20", "ITEM i of the ROW of that number; i = -1: how many. NONE: there is no such ROW, ITEM");
        edge.leavesInScenes("line(0, -1)", 3, c -> c.line(0, -1));
        edge.leavesInScenes("line(0, 2)", 3, c -> c.line(0, 2));
        for (int i : new int[] {-2, 3, MIN, MAX}) {
            edge.leavesInScenes("line(0, " + i + ")", NONE, c -> c.line(0, i));
        }
        for (int row : new int[] {-1, 28, 499, 500, 999, 1003, 1064, 1999, 2800, MIN, MAX}) {
            edge.noneAnywhere("line(" + row + ", -1)", c -> c.line(row, -1));
            edge.noneAnywhere("line(" + row + ", 0)", c -> c.line(row, 0));
        }
        ClauseCourt c = Hand.withNames(1);
        Hand.clause(c);
        edge.is("a ROW without ITEMS", 0, c.line(0, -1));
        edge.is("its ITEM 0", NONE, c.line(0, 0));
        edge.is("the next ROW", NONE, c.line(1, -1));
        edge.is("status()", 0, c.status());
    }

    private static void linesOfBarred() {
        edge.of("20", "BARRED 1000 and more");
        ClauseCourt c = Hand.withNames(2);
        c.counted(1, true);
        c.counted(2, true);
        edge.is("line(1000, -1) ahead of any", NONE, c.line(1000, -1));
        c.next(10);
        edge.is("line(1000, -1)", 2, c.line(1000, -1));
        edge.is("line(1000, 0)", 1, c.line(1000, 0));
        edge.is("line(1000, 1)", 2, c.line(1000, 1));
        edge.is("line(1000, 2)", NONE, c.line(1000, 2));
        edge.is("line(1000, -2)", NONE, c.line(1000, -2));
        edge.is("line(1001, -1)", NONE, c.line(1001, -1));
        c.next(10);
        edge.is("line(1001, -1)", 2, c.line(1001, -1));
        c.unbar();
        edge.is("line(1000, -1) behind unbar()", NONE, c.line(1000, -1));
    }

    /** -1 is DECIDED, 2 FORCED by ROW 0; of ROW 1 the NEW ROW 1 is learnt. */
    private static ClauseCourt learns() {
        ClauseCourt c = Hand.withNames(2);
        Hand.clause(c, 1, 2);
        Hand.clause(c, 1, -2);
        return c;
    }

    private static void linesOfLearnt() {
        edge.of("20", "LEARNT ones of the latest SOLVING; the RECORD's ROW by NO has no number");
        ClauseCourt c = learns();
        edge.is("ahead of SOLVING", NONE, c.line(2000, -1));
        c.solve(2);
        edge.is("ahead of LEARNING", NONE, c.line(2000, -1));
        c.goOn(1);
        edge.is("behind it", 1, c.line(2000, -1));
        edge.is("line(2000, 0)", 1, c.line(2000, 0));
        edge.is("line(2000, 1)", NONE, c.line(2000, 1));
        edge.is("line(2000, -2)", NONE, c.line(2000, -2));
        edge.is("line(2001, -1)", NONE, c.line(2001, -1));
        c.count(9, 100);
        c.forced();
        c.check();
        edge.is("what is beside it leaves it alone", "1", Hand.line(c, 2000));
        c.names(1);
        edge.is("what makes goOn() impossible, too", "1", Hand.line(c, 2000));
        c.assume(1);
        c.solve(100);
        edge.is("the next SOLVING learns none", NONE, c.line(2000, -1));
        c.free();
        Hand.clause(c, -1, 2);
        Hand.clause(c, -1, -2);
        edge.is("NO", 0, c.solve(100));
        edge.is("ROWS of the RECORD", 2, c.solved(8));
        edge.is("line(2000, -1)", 1, c.line(2000, -1));
        edge.is("NO's ROW", NONE, c.line(2001, -1));
        c.next(100);
        edge.is("next() is the latest one, too", 1, c.line(2000, -1));
    }

    private static void linesOfThoseThatWent() {
        edge.of("20", "LEARNT ones of the latest SOLVING, also those that went");
        ClauseCourt c = Scenes.pigeons(5, 4);
        c.forget(2);
        c.solve(5000);
        edge.is("some went", 1, c.solved(6) > 0 ? 1 : 0);
        int told = 0;
        for (int k = 0; k < c.solved(4); k++) {
            told += c.line(2000 + k, -1) >= 1 && c.line(2000 + k, 0) != NONE ? 1 : 0;
        }
        edge.is("all are told", c.solved(4), told);
        edge.is("numbers are never given twice", NONE, c.line(2000 + c.solved(4), -1));
    }

    private static void asksRefused() {
        edge.of("21", "ACT 0 .. 3 of a RULE. BAD");
        for (int act : new int[] {-1, 4, MIN, MAX}) {
            edge.refusedAnywhere("ask(0, " + act + ")", BAD, c -> c.ask(0, act));
        }
        edge.of("21", "STATE: act 0, and the latest SOLVING did not say YES");
        Supplier<ClauseCourt> ahead = () -> {
            ClauseCourt c = learns();
            c.ask(0, 3);
            return c;
        };
        edge.refused("ahead of SOLVING", STATE, ahead, c -> c.ask(0, 0));
        edge.refused("SPENT", STATE, Scenes::spent, c -> c.ask(0, 0));
        edge.refused("NO by d)", STATE, Scenes::no, c -> c.ask(0, 0));
        edge.refused("NO by b)", STATE, Scenes::lost, c -> c.ask(0, 0));
        edge.refused("NO of next()", STATE, Scenes::lostByNext, c -> c.ask(0, 0));
        edge.refused("SPENT of next()", STATE, Scenes::spentByNext, c -> c.ask(0, 0));
        ClauseCourt full = Scenes.full();
        edge.is("FULL", STATE, full.ask(0, 0));
        edge.is("status() behind it", STATE, full.status());
        edge.is("TRACE behind it", NONE, full.trace(0));
        edge.of("21", "or the RULE came since it began");
        Supplier<ClauseCourt> since = () -> {
            ClauseCourt c = Scenes.yes();
            c.clause(0);
            return c;
        };
        edge.refused("it came since", STATE, since, c -> c.ask(7, 0));
        ClauseCourt e = learns();
        e.solve(100);
        edge.is("it was there", 1, e.ask(1, 0));
        Hand.clause(e, 1);
        edge.is("it came since", STATE, e.ask(2, 0));
        e.solve(100);
        edge.is("it was there when the next one began", 1, e.ask(2, 0));
        Hand.clause(e, 1);
        e.next(100);
        edge.is("and when next() began", 1, e.ask(3, 0));
    }

    private static void holdsInState() {
        edge.of("21", "HOLDS (1, 0) under the TRUTHS of YES");
        String[] traces = {"0", "10", "20 10", "30", "40"};
        for (int rule = 0; rule < 5; rule++) {
            ClauseCourt c = Scenes.yes();
            edge.is("behind YES", 1, c.ask(rule, 0));
            edge.is("TRACE", traces[rule], Hand.trace(c, traces[rule].split(" ").length));
            ClauseCourt d = Scenes.byNext();
            edge.is("behind YES of next()", 1, d.ask(rule, 0));
        }
        ClauseCourt c = Scenes.spent();
        c.goOn(5000);
        edge.is("behind YES of goOn()", 1, c.ask(4, 0));
        c.names(3);
        c.assume(-3);
        c.clause(0);
        edge.is("whatever is told since", 1, c.ask(4, 0));
        edge.is("but not of the RULE that came", STATE, c.ask(7, 0));
        edge.is("its other ACTS are asked as ever", 1, c.ask(7, 1));
        c.solve(1);
        edge.is("behind a SOLVING that is SPENT", STATE, c.ask(4, 0));
        ClauseCourt d = Scenes.yes();
        d.count(9, 5000);
        d.solve(0);
        edge.is("count() and what is refused leave it", 1, d.ask(0, 0));
    }

    private static void act(String what, int rule, ClauseCourt c, int least, int most, String traceLeast, String traceMost) {
        edge.is("LEAST of " + what, least, c.ask(rule, 1));
        edge.is("its TRACE", traceLeast, Hand.trace(c, traceLeast.split(" ").length));
        edge.is("MOST of " + what, most, c.ask(rule, 2));
        edge.is("its TRACE", traceMost, Hand.trace(c, traceMost.split(" ").length));
    }

    private static void leastAndMost() {
        edge.of("21", "LEAST, MOST");
        for (int n : new int[] {0, 1, 2, 11, 12}) {
            ClauseCourt c = Hand.withNames(12);
            int[] items = new int[n];
            for (int i = 0; i < n; i++) {
                items[i] = i + 1;
            }
            Hand.paper(c, 0, items);
            act("some of " + n, c.clause(0), c, 1, n, "1 51", "52");
            for (int k : new int[] {0, 1, 2, 11, 12}) {
                ClauseCourt d = Hand.withNames(12);
                Hand.paper(d, 0, items);
                act("most " + k + " of " + n, d.atMost(0, k), d, 0, Math.min(n, k), "11 1 51", "12 52");
                ClauseCourt e = Hand.withNames(12);
                Hand.paper(e, 0, items);
                act("just " + k + " of " + n, e.group(0, k), e, k, Math.min(n, k), "21", "12 52");
            }
            act("odd of " + n, c.parity(0, true), c, 1, n % 2 == 1 ? n : n - 1, "31 51", "32 52");
            act("even of " + n, c.parity(0, false), c, 0, n % 2 == 0 ? n : n - 1, "31 51", "32 52");
        }
        ClauseCourt c = Hand.withNames(3);
        act("a TEXT of 1", Hand.told(c, "!x1"), c, 1, 1, "1 51", "42");
        act("a TEXT of 3", Hand.told(c, "j(x1,x2,x3)"), c, 1, 1, "1 51", "42");
    }

    private static void laid() {
        edge.of("21", "LAID: RULE's, which all have: how many ROWS it was laid as");
        int[] laid = {1, 7, 8, 5, 4};
        for (int rule = 0; rule < 5; rule++) {
            ClauseCourt c = Scenes.spent();
            edge.is("LAID of " + rule, laid[rule], c.ask(rule, 3));
            edge.is("its TRACE", 53, c.trace(0));
        }
        ClauseCourt c = Hand.withNames(1);
        Hand.paper(c, 0);
        edge.is("none", 0, c.ask(c.parity(0, false), 3));
        edge.is("none", 0, c.ask(c.atMost(0, 0), 3));
        edge.is("none", 0, c.ask(c.group(0, 0), 3));
        edge.is("one without ITEMS", 1, c.ask(c.group(0, 1), 3));
        edge.is("one without ITEMS", 1, c.ask(c.clause(0), 3));
    }

    private static void printed(String text, ClauseCourt c, int rule) {
        edge.is("print of " + text, text.length(), c.print(rule));
        edge.is("OUT", text, Hand.out(c));
        edge.is("about(9)", text.length(), c.about(9));
    }

    private static void prints() {
        edge.of("22", "ACT 4: OUT has that text: how many bytes. LIST: ( and the ITEMS with , between and )");
        ClauseCourt c = Hand.withNames(300);
        Hand.paper(c, 0);
        printed("some()", c, c.clause(0));
        printed("most 0()", c, c.atMost(0, 0));
        printed("most 12()", c, c.atMost(0, 12));
        printed("just most 10()", c, c.group(0, 10));
        printed("odd()", c, c.parity(0, true));
        printed("even()", c, c.parity(0, false));
        Hand.paper(c, 0, -300, 300, 9, 10, -99, 100, -1, -10, 299, 1, 1, -100);
        printed("some(-300,300,9,10,-99,100,-1,-10,299,1,1,-100)", c, c.clause(0));
        Hand.paper(c, 0, -7);
        printed("most 1(-7)", c, c.atMost(0, 1));
        printed("just most 0(-7)", c, c.group(0, 0));
        printed("odd(-7)", c, c.parity(0, true));
        printed("!!x007", c, Hand.told(c, "!!x007"));
        edge.is("the TRACE of TOLD has no LIST", 44, c.trace(0));
        printed("some()", c, 0);
        edge.is("the TRACE of LIST", "4 64", Hand.trace(c, 2));
    }

    private static void printsAreTraced() {
        edge.of("22", "ACTS of RULES are BODIES, each told to TRACE as it begins: 10 times its KIND and the ACT; LIST 64");
        String[] traces = {"4 64", "14 64", "24 14 64", "34 64", "44"};
        for (int rule = 0; rule < 5; rule++) {
            ClauseCourt c = Scenes.spent();
            String before = Hand.trace(c, 3);
            c.print(rule);
            int told = traces[rule].split(" ").length;
            edge.is("print(" + rule + ")", traces[rule], Hand.trace(c, told));
            edge.is("and no more", before, Hand.trace(c, 3 + told).substring(0, before.length()));
        }
    }

    private static void exports() {
        edge.of("23", "OUT has the ROWS of the CASE: of each its ITEMS, a blank behind each, then 0 and byte 10: how many bytes");
        ClauseCourt c = Hand.withNames(300);
        edge.is("without ROWS", 0, c.export());
        edge.is("about(9)", 0, c.about(9));
        edge.is("out(0)", NONE, c.out(0));
        Hand.clause(c);
        edge.is("a ROW without ITEMS", 2, c.export());
        edge.is("OUT", "0\n", Hand.out(c));
        Hand.clause(c, -300, 1, 10, 1);
        edge.is("two ROWS", 14, c.export());
        edge.is("OUT", "0\n-300 1 10 0\n", Hand.out(c));
        edge.is("no ACT", NONE, c.trace(0));
        ClauseCourt d = Hand.withNames(1);
        Hand.told(d, "x1");
        d.print(0);
        d.export();
        edge.is("what was in OUT is gone", "1 0\n", Hand.out(d));
        d.print(0);
        edge.is("and once more", "x1", Hand.out(d));
    }

    /** 11 PARITIES of the 12 latest NAMES each make 11 more, until there are 300: what OUT has of these is told by the words. */
    private static void exportsMuch() {
        edge.of("23", "OUT has the ROWS of the CASE: how many bytes");
        ClauseCourt c = Hand.withNames(179);
        StringBuilder text = new StringBuilder();
        for (int rule = 0; rule < 11; rule++) {
            int[] x = new int[12];
            for (int i = 0; i < 12; i++) {
                x[i] = rule - 168 - i;
            }
            Hand.paper(c, 0, x);
            edge.is("parity", rule, c.parity(0, true));
            int p = x[0];
            for (int i = 1; i < 12; i++) {
                int s = 179 + 11 * rule + i;
                text.append(-p).append(' ').append(-x[i]).append(' ').append(-s).append(" 0\n");
                text.append(p).append(' ').append(x[i]).append(' ').append(-s).append(" 0\n");
                text.append(p).append(' ').append(-x[i]).append(' ').append(s).append(" 0\n");
                text.append(-p).append(' ').append(x[i]).append(' ').append(s).append(" 0\n");
                p = s;
            }
            text.append(p).append(" 0\n");
        }
        edge.is("about(0)", 300, c.about(0));
        edge.is("about(2)", 495, c.about(2));
        edge.is("export()", text.length(), c.export());
        edge.is("about(9)", text.length(), c.about(9));
        edge.is("behind the last byte", NONE, c.out(text.length()));
        for (int i = text.length() - 100; i < text.length(); i++) {
            edge.is("out(" + i + ")", text.charAt(i), c.out(i));
        }
        for (int i = 0; i < 50; i++) {
            int at = 137 * i;
            edge.is("out(" + at + ")", text.charAt(at), c.out(at));
        }
    }

    private static void outs() {
        edge.of("24", "Byte i of OUT. NONE");
        edge.leavesInScenes("out(0)", 'j', c -> c.out(0));
        edge.leavesInScenes("the last", ')', c -> c.out(16));
        for (int i : new int[] {-1, 17, 13500, MIN, MAX}) {
            edge.leavesInScenes("out(" + i + ")", NONE, c -> c.out(i));
        }
        edge.leaves("out(0) of a new one", NONE, ClauseCourt::new, c -> c.out(0));
        edge.is("about(9)", 17, Scenes.spent().about(9));
    }

    private static void traces() {
        edge.of("53", "The i-th latest of TRACE (0: the latest). NONE");
        edge.leavesInScenes("trace(0)", 64, c -> c.trace(0));
        edge.leavesInScenes("trace(1)", 14, c -> c.trace(1));
        edge.leavesInScenes("trace(2)", 24, c -> c.trace(2));
        edge.leavesInScenes("trace(3)", 51, c -> c.trace(3));
        edge.leavesInScenes("trace(5)", 11, c -> c.trace(5));
        for (int i : new int[] {-1, 6, 99, 100, MIN, MAX}) {
            edge.leavesInScenes("trace(" + i + ")", NONE, c -> c.trace(i));
        }
        edge.leaves("trace(0) of a new one", NONE, ClauseCourt::new, c -> c.trace(0));
    }

    private static void traceKeepsHundred() {
        edge.of("53", "TRACE keeps the 100 latest");
        ClauseCourt c = Hand.withNames(1);
        Hand.paper(c, 0, 1);
        c.group(0, 1);
        c.ask(0, 1);
        for (int i = 0; i < 99; i++) {
            edge.is("the oldest of " + (i + 1), 21, c.trace(i));
            edge.is("behind it", NONE, c.trace(i + 1));
            c.ask(0, 3);
        }
        edge.is("the 100th latest", 21, c.trace(99));
        edge.is("trace(100)", NONE, c.trace(100));
        c.ask(0, 3);
        edge.is("it is gone", 53, c.trace(99));
        edge.is("trace(100)", NONE, c.trace(100));
    }
}
