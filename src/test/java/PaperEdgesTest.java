import java.util.Arrays;

/** Part 1, the Terms and promises 1 to 10, sentence by sentence: what is too small, too large, empty, full or refused. */
public final class PaperEdgesTest {
    private static final int BAD = ClauseCourt.BAD;
    private static final int FULL = ClauseCourt.FULL;
    private static final int NONE = ClauseCourt.NONE;
    private static final int NOTHING = ClauseCourt.NOTHING;
    private static final int BEYOND = ClauseCourt.BEYOND;
    private static final int SIZE = ClauseCourt.SIZE;
    private static final int MIN = Integer.MIN_VALUE;
    private static final int MAX = Integer.MAX_VALUE;
    private static final long LONG = 10000000000L;
    private static final int[] NO_ROWS = {-1, 40, MIN, MAX};
    private static final Edge edge = new Edge("PaperEdgesTest");

    public static void main(String[] args) {
        scenesAreAsTold();
        newObject();
        namesAreNumbered();
        namesRefused();
        rowsOfPaper();
        rowRefused();
        drops();
        puts();
        putRefused();
        gets();
        copies();
        copyRefused();
        cuts();
        cutRefused();
        feeds();
        feedRefused();
        wipes();
        edge.end();
    }

    /** The tests of refused calls stand on these: so each must be what it is called. */
    private static void scenesAreAsTold() {
        edge.of("31", "1 YES, 0 NO, SPENT, FULL");
        edge.is("SPENT", ClauseCourt.SPENT, Scenes.spent().solved(0));
        edge.is("goOn of it", 1, Scenes.spent().goOn(5000));
        edge.is("YES", 1, Scenes.yes().solved(0));
        edge.is("NO by d)", 0, Scenes.no().solved(0));
        edge.is("ITEMS of its CORE", "4", Hand.core(Scenes.no(), 1));
        edge.is("NO by b)", 0, Scenes.lost().solved(0));
        edge.is("ITEMS of its CORE", 0, Scenes.lost().core(1));
        edge.is("YES of next()", 1, Scenes.byNext().solved(0));
        edge.is("BARRED ROWS", 3, Scenes.byNext().about(5));
        edge.is("NO of next()", 0, Scenes.lostByNext().solved(0));
        edge.is("SPENT of next()", ClauseCourt.SPENT, Scenes.spentByNext().solved(0));
        edge.is("FULL", FULL, Scenes.full().solved(0));
        ClauseCourt c = Scenes.spent();
        edge.is("status", ClauseCourt.CAST, c.status());
        int[] told = {14, 7, 27, 59, 1, 2, 2, 3, 2, "just most 1(4,-5)".length()};
        for (int what = 0; what <= 9; what++) {
            edge.is("about(" + what + ")", told[what], c.about(what));
        }
        edge.is("OUT", "just most 1(4,-5)", Hand.out(c));
        edge.is("refusedAt, as both FOLLOW, but the last is no end", 2, c.refusedAt());
    }

    private static void newObject() {
        edge.of("1", "No NAMES, no RULES; all ROWS are MISSING");
        ClauseCourt c = new ClauseCourt();
        for (int what = 0; what <= 9; what++) {
            edge.is("about(" + what + ")", 0, c.about(what));
        }
        edge.is("status()", 0, c.status());
        for (int r = 0; r < 40; r++) {
            edge.is("get(" + r + ", -1)", LONG * NOTHING, c.get(r, -1));
        }
        edge.is("kind(0)", BAD, c.kind(0));
        edge.is("weighs(1)", BAD, c.weighs(1));
        edge.is("assume(1)", NOTHING, c.assume(1));
        edge.is("line(0, -1)", NONE, c.line(0, -1));
        edge.is("solved(0)", NONE, c.solved(0));
        edge.is("forced()", 0, c.forced());
    }

    private static void namesAreNumbered() {
        edge.of("2", "n more NAMES come: how many there are");
        ClauseCourt c = new ClauseCourt();
        edge.is("names(0)", 0, c.names(0));
        edge.is("assume(1) ahead of any", NOTHING, c.assume(1));
        edge.is("names(1)", 1, c.names(1));
        edge.is("assume(1)", 1, c.assume(1));
        edge.is("names(0) behind it", 1, c.names(0));
        edge.is("names(299)", 300, c.names(299));
        edge.is("assume(300)", 2, c.assume(300));
        edge.is("names(0) of 300", 300, c.names(0));
        edge.is("names(300) at once", 300, new ClauseCourt().names(300));
        edge.of("2", "NAMES are numbered from 1 on as they come, those that RULES make among them");
        ClauseCourt d = Hand.withNames(2);
        Hand.paper(d, 0, 1, 2);
        d.parity(0, true);
        edge.is("about(0)", 3, d.about(0));
        edge.is("names(1)", 4, d.names(1));
        d.parity(0, false);
        edge.is("the one that a RULE makes next", "-1 -2 -5", Hand.line(d, d.rows(1, 0)));
    }

    private static void namesRefused() {
        edge.of("2", "BAD: n is not 0 .. 300");
        for (int n : new int[] {-1, 301, MIN, MAX}) {
            edge.refusedAnywhere("names(" + n + ")", BAD, c -> c.names(n));
        }
        edge.of("2", "FULL");
        edge.refused("names(287) of 14", FULL, Scenes::spent, c -> c.names(287));
        edge.is("names(286) of 14", 300, Scenes.spent().names(286));
        edge.refusedInScenes("names(300)", FULL, c -> c.names(300));
        edge.refused("names(1) of 300", FULL, () -> Hand.withNames(300), c -> c.names(1));
        edge.refused("BAD ahead of FULL: names(301) of 300", BAD, () -> Hand.withNames(300), c -> c.names(301));
        edge.refused("BAD ahead of FULL: names(-1) of 300", BAD, () -> Hand.withNames(300), c -> c.names(-1));
        edge.refused("NAMES of RULES count", FULL, PaperEdgesTest::madeTo300, c -> c.names(1));
    }

    /** 299 NAMES, and one of a RULE. */
    private static ClauseCourt madeTo300() {
        ClauseCourt c = Hand.withNames(299);
        Hand.paper(c, 0, 1, 2);
        c.parity(0, true);
        return c;
    }

    private static String numbers(ClauseCourt c, int r) {
        StringBuilder text = new StringBuilder();
        for (int i = 0; i < c.get(r, -1); i++) {
            text.append(i > 0 ? " " : "").append(c.get(r, i));
        }
        return text.toString();
    }

    private static void rowsOfPaper() {
        edge.of("3", "PAPER has ROWS 0 .. 39, each of 0 .. 12 numbers");
        for (int r : new int[] {0, 39}) {
            ClauseCourt c = new ClauseCourt();
            edge.is("row(" + r + ", 0)", 0, c.row(r, 0));
            edge.is("get(" + r + ", -1)", 0, c.get(r, -1));
            edge.is("row(" + r + ", 12)", 12, c.row(r, 12));
            edge.is("get(" + r + ", -1)", 12, c.get(r, -1));
            edge.is("another ROW is MISSING", LONG * NOTHING, c.get(r == 0 ? 39 : 0, -1));
        }
        edge.of("3", "ROW r has n numbers, all 0");
        ClauseCourt c = new ClauseCourt();
        Hand.paper(c, 5, 1, 2, 3);
        c.row(5, 2);
        edge.is("fewer than it had", "0 0", numbers(c, 5));
        Hand.paper(c, 5, 1, 2, 3);
        c.row(5, 5);
        edge.is("more than it had", "0 0 0 0 0", numbers(c, 5));
        Hand.paper(c, 5, 1, 2, 3);
        c.cut(5, 1);
        c.row(5, 3);
        edge.is("what was cut is 0, too", "0 0 0", numbers(c, 5));
        Hand.paper(c, 5, 1, 2, 3);
        c.drop(5);
        c.row(5, 3);
        edge.is("what was dropped is 0, too", "0 0 0", numbers(c, 5));
    }

    private static void rowRefused() {
        edge.of("3", "BAD: r, n above 12; SIZE");
        for (int r : NO_ROWS) {
            edge.refusedAnywhere("row(" + r + ", 3)", BAD, c -> c.row(r, 3));
            edge.refusedAnywhere("BAD ahead of SIZE: row(" + r + ", -1)", BAD, c -> c.row(r, -1));
        }
        for (int n : new int[] {13, MAX}) {
            edge.refusedAnywhere("row(0, " + n + ")", BAD, c -> c.row(0, n));
        }
        for (int n : new int[] {-1, MIN}) {
            edge.refusedAnywhere("row(0, " + n + ")", SIZE, c -> c.row(0, n));
        }
    }

    private static void drops() {
        edge.of("4", "It is MISSING: 1. BAD");
        ClauseCourt c = new ClauseCourt();
        for (int r : new int[] {0, 39}) {
            c.row(r, 2);
            edge.is("drop(" + r + ")", 1, c.drop(r));
            edge.is("get(" + r + ", -1)", LONG * NOTHING, c.get(r, -1));
            edge.is("drop(" + r + ") of a MISSING one", 1, c.drop(r));
            c.row(r, 0);
            edge.is("drop(" + r + ") of one without numbers", 1, c.drop(r));
            edge.is("get(" + r + ", -1)", LONG * NOTHING, c.get(r, -1));
        }
        edge.leavesInScenes("drop of a MISSING one", 1, s -> s.drop(38));
        for (int r : NO_ROWS) {
            edge.refusedAnywhere("drop(" + r + ")", BAD, s -> s.drop(r));
        }
    }

    private static void puts() {
        edge.of("5", "Number i of a ROW becomes v (any ints): 1");
        ClauseCourt c = new ClauseCourt();
        c.row(0, 12);
        c.row(39, 1);
        int[] any = {MIN, MAX, 0, -1, 300, 301, -300, -301, 7, 7, -7, 1};
        for (int i = 0; i < 12; i++) {
            edge.is("put(0, " + i + ", " + any[i] + ")", 1, c.put(0, i, any[i]));
        }
        for (int i = 0; i < 12; i++) {
            edge.is("get(0, " + i + ")", any[i], c.get(0, i));
        }
        edge.is("put(39, 0, 9)", 1, c.put(39, 0, 9));
        edge.is("ROW 39", "9", numbers(c, 39));
    }

    private static void putRefused() {
        edge.of("5", "BAD: r; NOTHING; BEYOND");
        for (int r : NO_ROWS) {
            edge.refusedAnywhere("put(" + r + ", 0, 1)", BAD, c -> c.put(r, 0, 1));
            edge.refusedAnywhere("BAD ahead of all: put(" + r + ", -1, 1)", BAD, c -> c.put(r, -1, 1));
        }
        edge.refusedAnywhere("put of a MISSING ROW", NOTHING, c -> c.put(38, 0, 1));
        edge.refusedAnywhere("NOTHING ahead of BEYOND", NOTHING, c -> c.put(38, 12, 1));
        for (int i : new int[] {-1, 3, 11, 12, MIN, MAX}) {
            edge.refusedInScenes("put(0, " + i + ", 1) of 3", BEYOND, c -> c.put(0, i, 1));
        }
        edge.refusedInScenes("put of a ROW without numbers", BEYOND, c -> c.put(1, 0, 1));
        edge.refusedInScenes("put(2, 12, 1) of 12", BEYOND, c -> c.put(2, 12, 1));
    }

    private static void gets() {
        edge.of("6", "Number i of a ROW; i = -1: how many");
        edge.leavesInScenes("get(0, -1)", 3, c -> c.get(0, -1));
        edge.leavesInScenes("get(1, -1)", 0, c -> c.get(1, -1));
        edge.leavesInScenes("get(2, -1)", 12, c -> c.get(2, -1));
        edge.leavesInScenes("get(0, 2)", 3, c -> c.get(0, 2));
        edge.leavesInScenes("get(2, 11)", 7, c -> c.get(2, 11));
        edge.leavesInScenes("get(2, 4)", MIN, c -> c.get(2, 4));
        edge.of("6", "What is refused or found: ten thousand million times what is answered elsewhere. BAD: r; NOTHING; BEYOND");
        for (int r : NO_ROWS) {
            getRefused(r, -1, BAD);
            getRefused(r, 0, BAD);
            getRefused(r, -2, BAD);
        }
        getRefused(38, -1, NOTHING);
        getRefused(38, 0, NOTHING);
        getRefused(38, -2, NOTHING);
        for (int i : new int[] {-2, 3, 12, MIN, MAX}) {
            getRefused(0, i, BEYOND);
        }
        getRefused(1, 0, BEYOND);
        getRefused(2, 12, BEYOND);
    }

    private static void getRefused(int r, int i, int code) {
        edge.changesNothing("get(" + r + ", " + i + ")", LONG * code, code, Scenes::spent, c -> c.get(r, i));
        edge.changesNothing("get(" + r + ", " + i + ")", LONG * code, code, Scenes::no, c -> c.get(r, i));
    }

    /** ROW 0 has 10 to 14, ROW 1 three 0s, ROW 2 none; the others are MISSING. */
    private static ClauseCourt three() {
        ClauseCourt c = new ClauseCourt();
        Hand.paper(c, 0, 10, 11, 12, 13, 14);
        c.row(1, 3);
        c.row(2, 0);
        return c;
    }

    private static void copied(String what, String row, int... call) {
        ClauseCourt c = three();
        edge.is("copy " + Arrays.toString(call), call[4], c.copy(call[0], call[1], call[2], call[3], call[4]));
        edge.is(what, row, numbers(c, call[2]));
        if (call[0] != call[2]) {
            edge.is("ROW from stays", numbers(three(), call[0]), numbers(c, call[0]));
        }
    }

    private static void copies() {
        edge.of("7", "n numbers are copied into ROW to (another one or the same), as they were: n");
        copied("all that ROW to takes", "12 13 14", 0, 2, 1, 0, 3);
        copied("the last onto the first", "14 0 0", 0, 4, 1, 0, 1);
        copied("the first onto the last", "0 0 10", 0, 0, 1, 2, 1);
        copied("onto itself, to the right", "10 10 11 12 13", 0, 0, 0, 1, 4);
        copied("onto itself, to the left", "11 12 13 14 14", 0, 1, 0, 0, 4);
        copied("all onto itself", "10 11 12 13 14", 0, 0, 0, 0, 5);
        copied("none", "0 0 0", 0, 0, 1, 0, 0);
        copied("none behind the last ones", "0 0 0", 0, 5, 1, 3, 0);
        copied("none into a ROW without numbers", "", 0, 5, 2, 0, 0);
        copied("none from a ROW without numbers", "0 0 0", 2, 0, 1, 3, 0);
    }

    private static void copyRefused(int code, int... call) {
        edge.refused("copy " + Arrays.toString(call), code, PaperEdgesTest::three,
                c -> c.copy(call[0], call[1], call[2], call[3], call[4]));
    }

    private static void copyRefused() {
        edge.of("7", "BAD: from, to");
        for (int r : NO_ROWS) {
            copyRefused(BAD, r, 0, 1, 0, 1);
            copyRefused(BAD, 0, 0, r, 0, 1);
            copyRefused(BAD, r, -1, 7, 0, 1);
            copyRefused(BAD, 7, -1, r, 0, 1);
            edge.refusedAnywhere("copy from " + r, BAD, c -> c.copy(r, 0, 0, 0, 0));
        }
        edge.of("7", "NOTHING: either");
        copyRefused(NOTHING, 7, 0, 1, 0, 0);
        copyRefused(NOTHING, 0, 0, 7, 0, 0);
        copyRefused(NOTHING, 7, -1, 1, 0, 1);
        copyRefused(NOTHING, 0, 6, 7, 0, 1);
        copyRefused(NOTHING, 0, 0, 7, 0, -1);
        edge.refusedInScenes("copy to a MISSING ROW", NOTHING, c -> c.copy(0, 0, 38, 0, 1));
        edge.of("7", "BEYOND: i, j, n below 0, or there are not so many");
        copyRefused(BEYOND, 0, -1, 1, 0, 1);
        copyRefused(BEYOND, 0, 0, 1, -1, 1);
        copyRefused(BEYOND, 0, 0, 1, 0, -1);
        copyRefused(BEYOND, 0, -1, 1, 0, 0);
        copyRefused(BEYOND, 0, 0, 1, -1, 0);
        copyRefused(BEYOND, 0, 3, 1, 0, 3);
        copyRefused(BEYOND, 0, 0, 1, 0, 4);
        copyRefused(BEYOND, 0, 0, 1, 2, 2);
        copyRefused(BEYOND, 0, 5, 1, 0, 1);
        copyRefused(BEYOND, 0, 6, 1, 0, 0);
        copyRefused(BEYOND, 0, 0, 1, 4, 0);
        copyRefused(BEYOND, 0, 0, 2, 0, 1);
        copyRefused(BEYOND, 2, 0, 0, 0, 1);
        copyRefused(BEYOND, 0, 1, 0, 0, 5);
        copyRefused(BEYOND, 0, 0, 1, 0, MAX);
        copyRefused(BEYOND, 0, 1, 1, 1, MAX);
        copyRefused(BEYOND, 0, MAX, 1, 0, 1);
        copyRefused(BEYOND, 0, 0, 1, MAX, 1);
        copyRefused(BEYOND, 0, MAX, 1, MAX, MAX);
        copyRefused(BEYOND, 0, MIN, 1, 0, 0);
        copyRefused(BEYOND, 0, 0, 1, MIN, 0);
        copyRefused(BEYOND, 0, 0, 1, 0, MIN);
        edge.refusedInScenes("copy of too many", BEYOND, c -> c.copy(0, 0, 2, 0, 4));
    }

    private static void cuts() {
        edge.of("8", "ROW r becomes its own first n numbers: n");
        ClauseCourt c = three();
        edge.is("cut(0, 5) of 5", 5, c.cut(0, 5));
        edge.is("ROW 0", "10 11 12 13 14", numbers(c, 0));
        edge.is("cut(0, 2)", 2, c.cut(0, 2));
        edge.is("ROW 0", "10 11", numbers(c, 0));
        edge.is("what is cut is no place any more", BEYOND, c.put(0, 2, 1));
        edge.is("cut(0, 0)", 0, c.cut(0, 0));
        edge.is("it is not MISSING", 0, c.get(0, -1));
        edge.is("cut(0, 0) of none", 0, c.cut(0, 0));
        c.row(39, 12);
        edge.is("cut(39, 12)", 12, c.cut(39, 12));
    }

    private static void cutRefused() {
        edge.of("8", "BAD: r, n above 12; SIZE; NOTHING; BEYOND");
        for (int r : NO_ROWS) {
            edge.refusedAnywhere("cut(" + r + ", 0)", BAD, c -> c.cut(r, 0));
            edge.refusedAnywhere("BAD ahead of SIZE: cut(" + r + ", -1)", BAD, c -> c.cut(r, -1));
        }
        edge.refusedAnywhere("cut(0, 13)", BAD, c -> c.cut(0, 13));
        edge.refusedAnywhere("cut(0, MAX)", BAD, c -> c.cut(0, MAX));
        edge.refusedAnywhere("BAD ahead of NOTHING", BAD, c -> c.cut(38, 13));
        edge.refusedAnywhere("SIZE ahead of NOTHING", SIZE, c -> c.cut(38, -1));
        edge.refusedInScenes("cut(0, -1)", SIZE, c -> c.cut(0, -1));
        edge.refusedInScenes("cut(0, MIN)", SIZE, c -> c.cut(0, MIN));
        edge.refusedAnywhere("cut of a MISSING ROW", NOTHING, c -> c.cut(38, 0));
        edge.refusedAnywhere("NOTHING ahead of BEYOND", NOTHING, c -> c.cut(38, 12));
        edge.refusedInScenes("cut(0, 4) of 3", BEYOND, c -> c.cut(0, 4));
        edge.refusedInScenes("cut(0, 12) of 3", BEYOND, c -> c.cut(0, 12));
        edge.refusedInScenes("cut(1, 1) of none", BEYOND, c -> c.cut(1, 1));
    }

    /** TAPE can be told by a TOLD alone, which PRINTS its text. */
    private static String text(ClauseCourt c) {
        int rule = c.told();
        c.print(rule);
        return Hand.out(c);
    }

    private static void feeds() {
        edge.of("9", "The n lowest bytes of w come to TAPE, the highest of these first: how many it has");
        long eight = 0;
        for (char sign : "&(x1,x2)".toCharArray()) {
            eight = eight << 8 | sign;
        }
        ClauseCourt c = Hand.withNames(12);
        edge.is("feed(.., 8)", 8, c.feed(eight, 8));
        edge.is("its text", "&(x1,x2)", text(c));
        edge.is("feed(.., 3): the higher ones do not come", 3, c.feed(eight << 24 | 'x' << 16 | '1' << 8 | '2', 3));
        edge.is("its text", "x12", text(c));
        edge.is("feed(.., 1)", 1, c.feed(eight << 8 | 'x', 1));
        edge.is("feed(.., 1)", 2, c.feed(-256L | '3', 1));
        edge.is("its text", "x3", text(c));
        edge.of("9", "TAPE has 60 bytes at most");
        for (int i = 1; i <= 7; i++) {
            edge.is("feed " + i, 8 * i, c.feed(-1, 8));
        }
        edge.is("the last four", 60, c.feed(0, 4));
        edge.is("about(8)", 60, c.about(8));
    }

    private static ClauseCourt taped(int bytes) {
        ClauseCourt c = Hand.withNames(3);
        for (int i = 0; i < bytes; i++) {
            c.feed(i == 0 ? '!' : i == bytes - 2 ? 'x' : i == bytes - 1 ? '2' : '!', 1);
        }
        return c;
    }

    private static void feedRefused() {
        edge.of("9", "BAD: n is not 1 .. 8");
        for (int n : new int[] {0, 9, -1, MIN, MAX}) {
            edge.refusedAnywhere("feed(.., " + n + ")", BAD, c -> c.feed('x', n));
            edge.refused("BAD ahead of FULL: feed(.., " + n + ") of 60", BAD, () -> taped(60), c -> c.feed('x', n));
        }
        edge.of("9", "FULL");
        edge.refused("the 61st", FULL, () -> taped(60), c -> c.feed('x', 1));
        edge.refused("8 more than 53", FULL, () -> taped(53), c -> c.feed('x', 8));
        edge.refused("2 more than 59", FULL, () -> taped(59), c -> c.feed('x', 2));
        edge.is("8 more than 52", 60, taped(52).feed('x', 8));
        edge.is("1 more than 59", 60, taped(59).feed('x', 1));
    }

    private static void wipes() {
        edge.of("10", "TAPE is empty: how many it had");
        ClauseCourt c = taped(60);
        edge.is("wipe()", 60, c.wipe());
        edge.is("about(8)", 0, c.about(8));
        edge.is("wipe() of an empty one", 0, c.wipe());
        edge.is("there is room again", 8, c.feed(0, 8));
        edge.is("wipe()", 8, c.wipe());
        edge.is("told() of an empty one", -2000, c.told());
        edge.leaves("wipe() of an empty one", 0, PaperEdgesTest::wiped, ClauseCourt::wipe);
    }

    private static ClauseCourt wiped() {
        ClauseCourt c = Scenes.spent();
        c.wipe();
        return c;
    }
}
