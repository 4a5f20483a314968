/** Promises 11 to 24: RULES, what they are laid as, their ACTS and OUT. */
public final class RulesTest {
    private static final int BAD = ClauseCourt.BAD;
    private static final int STATE = ClauseCourt.STATE;
    private static final int FULL = ClauseCourt.FULL;
    private static final int NONE = ClauseCourt.NONE;
    private static final int NOTHING = ClauseCourt.NOTHING;
    private static final int BEYOND = ClauseCourt.BEYOND;
    private static final int CAST = ClauseCourt.CAST;
    private static final Due due = new Due("RulesTest");

    public static void main(String[] args) {
        clause();
        wrongRows();
        atMost();
        group();
        parity();
        toldRows();
        toldFaults();
        toldNumbers();
        toldDeep();
        fullOfRules();
        fullOfNames();
        fullOfRows();
        fullOfItems();
        kindsAndCasts();
        itemsAndRows();
        lines();
        holds();
        leastMostLaid();
        prints();
        exports();
        due.end();
    }

    private static void clause() {
        ClauseCourt c = Hand.withNames(3);
        due.is("clause", 0, Hand.clause(c, 3, -1, 3, 2, -1));
        due.is("each ITEM once", "3 -1 2", Hand.laid(c, 0));
        due.is("clause without ITEMS", 1, Hand.clause(c));
        due.is("its ROW", 0, c.line(1, -1));
        due.is("an ITEM and its CONTRARY stay", 2, Hand.clause(c, 2, -2));
        due.is("its ROW", "2 -2", Hand.laid(c, 2));
        due.is("about(3)", 5, c.about(3));
    }

    /** The same for all RULES of a ROW: what is refused or found, and that nothing is changed. */
    private static void wrongRows() {
        ClauseCourt c = Hand.withNames(2);
        Hand.paper(c, 0, 1, 3, 0);
        Hand.paper(c, 1, 1, 301, 3);
        Hand.paper(c, 2, -3);
        Hand.paper(c, 3, -301);
        Hand.paper(c, 4, 0, 3);
        Hand.paper(c, 5, Integer.MIN_VALUE);
        Hand.paper(c, 7, 300);
        long digest = c.digest();
        for (int kind = 0; kind < 5; kind++) {
            due.is("no such ROW", BAD, lay(c, kind, -1));
            due.is("no such ROW", BAD, lay(c, kind, 40));
            due.is("a MISSING ROW", NOTHING, lay(c, kind, 6));
            due.is("first a NAME that there is not", NOTHING, lay(c, kind, 0));
            due.is("status", NOTHING, c.status());
            due.is("first above 300", BEYOND, lay(c, kind, 1));
            due.is("status", BEYOND, c.status());
            due.is("a NAME that there is not, denied", NOTHING, lay(c, kind, 2));
            due.is("below -300", BEYOND, lay(c, kind, 3));
            due.is("first 0", BEYOND, lay(c, kind, 4));
            due.is("far below", BEYOND, lay(c, kind, 5));
            due.is("300", NOTHING, lay(c, kind, 7));
        }
        due.is("atMost(6, -1)", BAD, c.atMost(6, -1));
        due.is("atMost(6, 13)", BAD, c.atMost(6, 13));
        due.is("group(6, -1)", BAD, c.group(6, -1));
        due.is("group(6, 13)", BAD, c.group(6, 13));
        due.is("status", BAD, c.status());
        due.is("digest", digest, c.digest());
        due.is("about(1)", 0, c.about(1));
        due.is("about(2)", 0, c.about(2));
        due.is("about(6)", 0, c.about(6));
    }

    private static int lay(ClauseCourt c, int kind, int r) {
        switch (kind) {
            case 0:
                return c.clause(r);
            case 1:
                return c.atMost(r, 1);
            case 2:
                return c.group(r, 1);
            case 3:
                return c.parity(r, true);
            default:
                return c.claim(r);
        }
    }

    private static void atMost() {
        ClauseCourt c = Hand.withNames(3);
        Hand.paper(c, 0, 1, -2, 3);
        due.is("atMost(0, 1)", 0, c.atMost(0, 1));
        due.is("its ROWS", "-1 4; 2 4; 1 -2 -4; 2 -1 5; -2 -5; 1 -5;"
                + " -4 6; -3 6; 4 3 -6; -5 7; -3 -4 7; 5 3 -7; 5 4 -7; -7", Hand.laid(c, 0));
        due.is("NAMES", 7, c.about(0));
        due.is("atMost(0, 0)", 1, c.atMost(0, 0));
        due.is("its ROWS", "-1 8; 2 8; 1 -2 -8; -8 9; -3 9; 8 3 -9; -9", Hand.laid(c, 1));
        Hand.paper(c, 0, 2);
        due.is("of one, at most 0", 2, c.atMost(0, 0));
        due.is("its ROW", "-2", Hand.laid(c, 2));
        due.is("of one, at most 1", 3, c.atMost(0, 1));
        due.is("no ROWS", "", Hand.laid(c, 3));
        due.is("LAID", 0, c.ask(3, 3));
        Hand.paper(c, 0);
        due.is("of none", 4, c.atMost(0, 12));
        due.is("LAID", 0, c.ask(4, 3));
        Hand.paper(c, 0, 1, 1);
        due.is("the same one twice", 5, c.atMost(0, 1));
        due.is("its ROWS", "-1 10; 1 -10; -1 11; 1 -11; -11", onceMore(Hand.laid(c, 5)));
    }

    /** S(2, 1) of 1 1 has -1 s; -1 s; 1 -s, S(2, 2) -1 s; 1 -s; 1 -s: told once each. */
    private static String onceMore(String rows) {
        StringBuilder text = new StringBuilder();
        for (String row : new java.util.LinkedHashSet<>(java.util.Arrays.asList(rows.split("; ")))) {
            text.append(text.length() > 0 ? "; " : "").append(row);
        }
        due.is("all ROWS", "-1 10; -1 10; 1 -10; -1 11; 1 -11; 1 -11; -11", rows);
        return text.toString();
    }

    private static void group() {
        ClauseCourt c = Hand.withNames(2);
        Hand.paper(c, 0, 1, 2);
        due.is("group(0, 1)", 0, c.group(0, 1));
        due.is("its ROWS", "-1 3; -2 3; 1 2 -3; -2 -1 4; 2 -4; 1 -4; -4; 3", Hand.laid(c, 0));
        due.is("group(0, 0)", 1, c.group(0, 0));
        due.is("its ROWS", "-1 5; -2 5; 1 2 -5; -5", Hand.laid(c, 1));
        due.is("group(0, 2)", 2, c.group(0, 2));
        due.is("its ROWS", "-1 6; -2 6; 1 2 -6; -2 -1 7; 2 -7; 1 -7; 7", Hand.laid(c, 2));
        due.is("group(0, 3)", 3, c.group(0, 3));
        due.is("its last ROW has no ITEMS", 0, c.line(c.rows(3, 6), -1));
        due.is("LAID", 7, c.ask(3, 3));
        Hand.paper(c, 0);
        due.is("none of none", 4, c.group(0, 0));
        due.is("LAID", 0, c.ask(4, 3));
        due.is("one of none", 5, c.group(0, 1));
        due.is("LAID", 1, c.ask(5, 3));
        Hand.paper(c, 0, -2);
        due.is("just that one", 6, c.group(0, 1));
        due.is("its ROW", "-2", Hand.laid(c, 6));
    }

    private static void parity() {
        ClauseCourt c = Hand.withNames(3);
        Hand.paper(c, 0, 1, -2, 3);
        due.is("parity(0, true)", 0, c.parity(0, true));
        due.is("its ROWS", "-1 2 -4; 1 -2 -4; 1 2 4; -1 -2 4; -4 -3 -5; 4 3 -5; 4 -3 5; -4 3 5; 5", Hand.laid(c, 0));
        Hand.paper(c, 0, -1);
        due.is("parity of one, even", 1, c.parity(0, false));
        due.is("its ROW", "1", Hand.laid(c, 1));
        due.is("parity of one, odd", 2, c.parity(0, true));
        due.is("its ROW", "-1", Hand.laid(c, 2));
        Hand.paper(c, 0);
        due.is("parity of none, even", 3, c.parity(0, false));
        due.is("LAID", 0, c.ask(3, 3));
        due.is("parity of none, odd", 4, c.parity(0, true));
        due.is("LAID", 1, c.ask(4, 3));
        due.is("a ROW without ITEMS", 0, c.line(c.rows(4, 0), -1));
        Hand.paper(c, 0, 2, 2);
        due.is("the same one twice", 5, c.parity(0, false));
        due.is("its ROWS", "-2 -6; 2 -6; 2 -2 6; -2 2 6; -6", Hand.laid(c, 5));
    }

    private static void toldRows() {
        ClauseCourt c = Hand.withNames(4);
        due.is("a NAME", 0, Hand.told(c, "x002"));
        due.is("its ROW", "2", Hand.laid(c, 0));
        due.is("about(8)", 0, c.about(8));
        due.is("not", 1, Hand.told(c, "!!!x3"));
        due.is("its ROW", "-3", Hand.laid(c, 1));
        due.is("all", 2, Hand.told(c, "&(x1,!x2)"));
        due.is("its ROWS", "1 -5; -2 -5; 5 -1 2; 5", Hand.laid(c, 2));
        due.is("some", 3, Hand.told(c, "!|(x1,x2,x1)"));
        due.is("its ROWS", "-1 6; -2 6; -1 6; 1 2 -6; -6", Hand.laid(c, 3));
        due.is("then", 4, Hand.told(c, ">(x1,x4)"));
        due.is("its ROWS", "1 7; -4 7; -1 4 -7; 7", Hand.laid(c, 4));
        due.is("just one", 5, Hand.told(c, "j(x1,x2,!x3)"));
        due.is("its ROWS", "1 2 -3 -8; -1 -2 -8; -1 3 -8; -2 3 -8; 8 -1 2 -3; 8 -2 1 -3; 8 3 1 2; 8", Hand.laid(c, 5));
        due.is("inner ones first, from the left on", 6, Hand.told(c, ">(!&(x1),|(x2,j(x3)))"));
        due.is("its ROWS", "1 -9; 9 -1; 3 -10; 10 -3; -2 11; -10 11; 2 10 -11; -9 12; -11 12; 9 11 -12; 12",
                Hand.laid(c, 6));
        due.is("its ITEMS", "1 2 3", items(c, 6));
        due.is("NAMES", 12, c.about(0));
    }

    private static String items(ClauseCourt c, int rule) {
        StringBuilder text = new StringBuilder();
        for (int i = 0; i < c.item(rule, -1); i++) {
            text.append(i > 0 ? " " : "").append(c.item(rule, i));
        }
        return text.toString();
    }

    private static void fault(ClauseCourt c, String text, int place) {
        due.is("told " + text, -2000 - place, Hand.told(c, text));
        due.is("status behind it", -2000 - place, c.status());
        due.is("TAPE behind it", 0, c.about(8));
    }

    private static void toldFaults() {
        ClauseCourt c = Hand.withNames(9);
        long digest = c.digest();
        fault(c, "", 0);
        fault(c, "y1", 0);
        fault(c, "x", 1);
        fault(c, "xa", 1);
        fault(c, "x1a", 2);
        fault(c, "x0001", 4);
        fault(c, "x1x2", 2);
        fault(c, "x1,x2", 2);
        fault(c, "x1)", 2);
        fault(c, " x1", 0);
        fault(c, "!", 1);
        fault(c, "!)", 1);
        fault(c, "(x1)", 0);
        fault(c, "&", 1);
        fault(c, "&x1", 1);
        fault(c, "&(", 2);
        fault(c, "&()", 2);
        fault(c, "&(x1", 4);
        fault(c, "&(x1,", 5);
        fault(c, "&(x1,)", 5);
        fault(c, "&(x1,,x2)", 5);
        fault(c, "&(x1 ,x2)", 4);
        fault(c, "&(x1))", 5);
        fault(c, ">(x1)", 4);
        fault(c, ">(x1,x2", 7);
        fault(c, ">(x1,x2,x3)", 7);
        fault(c, "|(x1,x2,x3,x4,x5,x6,x7,x8,x9)", 26);
        fault(c, "|(x1,x2,x3,x4,x5,x6,x7,x8,!x9)", 26);
        fault(c, "|(x1,x2,x3,x4,x5,x6,x7,x8,", 26);
        fault(c, "j(x1,x2,x3,x4,x5,x6,x7,x8,)", 26);
        fault(c, "&(&(&(&(&(&(&(&(&(x1)))))))))", 17);
        fault(c, "&(&(&(&(&(&(&(&(&", 17);
        fault(c, "&(x1,x2)\u00ff", 8);
        fault(c, "\u0000", 0);
        fault(c, "x1\u0080", 2);
        fault(c, "x\u00b2", 1);
        due.is("digest", digest, c.digest());
        due.is("RULES", 0, c.about(1));
    }

    private static void toldNumbers() {
        ClauseCourt c = Hand.withNames(2);
        due.is("no such NAME", NOTHING, Hand.told(c, "x3"));
        due.is("TAPE behind it", 0, c.about(8));
        due.is("no such number", BEYOND, Hand.told(c, "x301"));
        due.is("no such number", BEYOND, Hand.told(c, "!x000"));
        due.is("as they come", NOTHING, Hand.told(c, "&(x1,x3,x301)"));
        due.is("as they come", BEYOND, Hand.told(c, "&(x999,x3)"));
        due.is("300", NOTHING, Hand.told(c, "x300"));
        due.is("the FAULT ahead of all numbers", -2002, Hand.told(c, "x3,x1"));
        due.is("NAMES", 2, c.about(0));
        due.is("RULES", 0, c.about(1));
    }

    private static void toldDeep() {
        ClauseCourt c = Hand.withNames(8);
        due.is("8 open at once", 0, Hand.told(c, "&(&(&(&(&(&(&(&(x1))))))))"));
        due.is("8 PARTS", 1, Hand.told(c, "j(x1,x2,x3,x4,x5,x6,x7,x8)"));
        due.is("LAID", 1 + 28 + 8 + 1, c.ask(1, 3));
        String longest = "&(x001,x002,x003,x004,x005,x006,x007,&(!!!!x08,!!x008,x008))";
        due.is("its length", 60, longest.length());
        due.is("60 bytes", 2, Hand.told(c, longest));
        due.is("print", 60, c.print(2));
        due.is("its text", longest, Hand.out(c));
    }

    private static void fullOfRules() {
        ClauseCourt c = Hand.withNames(1);
        for (int i = 0; i < 60; i++) {
            due.is("RULE " + i, i, Hand.clause(c, 1));
        }
        due.is("one more", FULL, c.clause(39));
        due.is("one more that lays no ROWS", FULL, c.atMost(39, 1));
        due.is("one more TOLD", FULL, Hand.told(c, "x1"));
        due.is("TAPE", 0, c.about(8));
        due.is("status", FULL, c.status());
        Hand.paper(c, 39, 2);
        due.is("NOTHING ahead of FULL", NOTHING, c.clause(39));
        due.is("RULES", 60, c.about(1));
        due.is("ROWS", 60, c.about(2));
    }

    private static void fullOfNames() {
        ClauseCourt c = Hand.withNames(298);
        Hand.paper(c, 0, 1, 2, 3, 4);
        due.is("3 NAMES more", FULL, c.parity(0, true));
        due.is("NAMES", 298, c.about(0));
        due.is("ROWS", 0, c.about(2));
        due.is("RULES", 0, c.about(1));
        due.is("a TOLD of 3 NAMES more", FULL, Hand.told(c, "&(&(x1),&(x2))"));
        Hand.paper(c, 0, 1, 2, 3);
        due.is("2 NAMES more", 0, c.parity(0, true));
        due.is("NAMES", 300, c.about(0));
        due.is("1 NAME more", FULL, c.parity(0, true));
        due.is("no NAME more", 1, c.clause(0));
    }

    private static void fullOfRows() {
        ClauseCourt c = Hand.withNames(12);
        Hand.paper(c, 0, 1, 2, 3, 4, 5, 6, 7, 8, 9, 10, 11, 12);
        due.is("287 ROWS", 0, c.group(0, 12));
        due.is("ROWS", 287, c.about(2));
        due.is("210 ROWS", 1, c.group(0, 5));
        due.is("ROWS", 497, c.about(2));
        Hand.paper(c, 0, 1, 2);
        due.is("4 ROWS of atMost(0, 0)", FULL, c.atMost(0, 0));
        due.is("3 ROWS", 2, Hand.told(c, "&(x1)"));
        due.is("ROWS", 500, c.about(2));
        due.is("one more", FULL, c.clause(0));
        due.is("none more", 3, c.atMost(0, 12) == FULL ? c.parity(emptyRow(c), false) : -1);
    }

    private static int emptyRow(ClauseCourt c) {
        c.row(5, 0);
        return 5;
    }

    /** A TOLD with j of 8 is laid as 38 ROWS of 166 ITEMS; with CLAUSES of 12 the ITEMS get full ahead of the ROWS. */
    private static void fullOfItems() {
        ClauseCourt c = Hand.withNames(12);
        for (int i = 0; i < 12; i++) {
            due.is("told " + i, i, Hand.told(c, "j(x1,x2,x3,x4,x5,x6,x7,x8)"));
        }
        due.is("ROWS", 12 * 38, c.about(2));
        due.is("ITEMS", 12 * 166, c.about(3));
        Hand.paper(c, 0, 1, 2, 3, 4, 5, 6, 7, 8, 9, 10, 11, 12);
        for (int i = 12; i < 54; i++) {
            due.is("clause " + i, i, c.clause(0));
        }
        due.is("ITEMS", 2496, c.about(3));
        due.is("2,501 ITEMS", FULL, Hand.clause(c, 1, 2, 3, 4, 5));
        due.is("each counts once", 54, Hand.clause(c, 1, 2, 3, 1, 4, 2));
        due.is("ITEMS", 2500, c.about(3));
        due.is("one more", FULL, Hand.clause(c, 1));
        due.is("none more", 55, Hand.clause(c));
        due.is("ROWS", 500, c.about(2));
        due.is("the 501st", FULL, Hand.clause(c));
    }

    private static ClauseCourt ofAllKinds() {
        ClauseCourt c = Hand.withNames(4);
        Hand.paper(c, 0, 1, -2, 3);
        c.clause(0);
        c.atMost(0, 2);
        c.group(0, 2);
        c.parity(0, true);
        Hand.told(c, "&(x1,!x2)");
        return c;
    }

    private static void kindsAndCasts() {
        ClauseCourt c = ofAllKinds();
        int[][] are = {{1, 0, 0, 0, 0}, {1, 1, 0, 0, 0}, {1, 1, 1, 0, 0}, {0, 0, 0, 1, 0}, {1, 0, 0, 0, 1}};
        for (int rule = 0; rule < 5; rule++) {
            due.is("kind(" + rule + ")", rule, c.kind(rule));
            for (int kind = 0; kind < 5; kind++) {
                due.is("as(" + rule + ", " + kind + ")", are[rule][kind] == 1 ? 1 : CAST, c.as(rule, kind));
            }
        }
        due.is("as(3, 0)", CAST, c.as(3, 0));
        due.is("status", CAST, c.status());
        due.is("kind(-1)", BAD, c.kind(-1));
        due.is("kind(5)", BAD, c.kind(5));
        due.is("as(5, 0)", BAD, c.as(5, 0));
        due.is("as(-1, 0)", BAD, c.as(-1, 0));
        due.is("as(0, 5)", BAD, c.as(0, 5));
        due.is("as(0, -1)", BAD, c.as(0, -1));
    }

    private static void itemsAndRows() {
        ClauseCourt c = ofAllKinds();
        due.is("item(0, -1)", 3, c.item(0, -1));
        due.is("item(0, 1)", -2, c.item(0, 1));
        due.is("item(0, 3)", NONE, c.item(0, 3));
        due.is("item(0, -2)", NONE, c.item(0, -2));
        due.is("status", 0, c.status());
        due.is("item(4, -1)", 2, c.item(4, -1));
        due.is("item(4, 1)", 2, c.item(4, 1));
        due.is("item(5, 0)", BAD, c.item(5, 0));
        due.is("item(-1, 0)", BAD, c.item(-1, 0));
        Hand.paper(c, 0, 2, 2, 2);
        int rule = c.clause(0);
        c.put(0, 0, 4);
        due.is("the same one may stand twice", 3, c.item(rule, -1));
        due.is("a RULE's ITEMS are its own", 2, c.item(rule, 0));
        due.is("rows(0, 0)", 0, c.rows(0, 0));
        due.is("rows(0, 1)", NONE, c.rows(0, 1));
        due.is("rows(1, 0)", 1, c.rows(1, 0));
        due.is("rows(1, -1)", NONE, c.rows(1, -1));
        due.is("rows(" + rule + ", 0)", c.about(2) - 1, c.rows(rule, 0));
        due.is("rows(-1, 0)", BAD, c.rows(-1, 0));
        due.is("rows(6, 0)", BAD, c.rows(rule + 1, 0));
    }

    private static void lines() {
        ClauseCourt c = Hand.withNames(2);
        Hand.clause(c, 1, -2);
        due.is("line(0, -1)", 2, c.line(0, -1));
        due.is("line(0, 1)", -2, c.line(0, 1));
        due.is("line(0, 2)", NONE, c.line(0, 2));
        due.is("line(0, -2)", NONE, c.line(0, -2));
        due.is("line(1, -1)", NONE, c.line(1, -1));
        due.is("line(-1, -1)", NONE, c.line(-1, -1));
        due.is("line(1000, -1)", NONE, c.line(1000, -1));
        due.is("line(2000, -1)", NONE, c.line(2000, -1));
        due.is("line(MIN, 0)", NONE, c.line(Integer.MIN_VALUE, 0));
        due.is("line(MAX, 0)", NONE, c.line(Integer.MAX_VALUE, 0));
        due.is("status", 0, c.status());
        c.counted(2, true);
        due.is("next", 1, c.next(10));
        due.is("the BARRED ROW", "2", Hand.line(c, 1000));
        due.is("line(1001, -1)", NONE, c.line(1001, -1));
    }

    private static void holds() {
        ClauseCourt c = ofAllKinds();
        due.is("ahead of SOLVING", STATE, c.ask(0, 0));
        due.is("no such RULE", BAD, c.ask(5, 0));
        due.is("no such RULE", BAD, c.ask(-1, 0));
        due.is("no such ACT", BAD, c.ask(0, -1));
        due.is("no such ACT", BAD, c.ask(0, 4));
        due.is("TRACE", NONE, c.trace(0));
        due.is("solve: 1, not 2 and not 3 are just 2 of 3, which is even", 0, c.solve(500));
        due.is("NO", STATE, c.ask(0, 0));
        for (int truths = 0; truths < 8; truths++) {
            for (int k = 0; k <= 4; k++) {
                holdsUnder(truths, k);
            }
        }
        ClauseCourt d = Hand.withNames(1);
        Hand.clause(d, 1);
        d.solve(5);
        Hand.clause(d, 1);
        due.is("it was there", 1, d.ask(0, 0));
        due.is("it came since", STATE, d.ask(1, 0));
        due.is("status", STATE, d.status());
        due.is("LEAST of it", 1, d.ask(1, 1));
    }

    /** NAMES 1, 2, 3 are ASSUMED as the bits of truths are; ROW 0 has 1 twice. */
    private static ClauseCourt assuming(int truths) {
        ClauseCourt c = Hand.withNames(3);
        for (int n = 1; n <= 3; n++) {
            c.assume((truths >> n - 1 & 1) == 1 ? n : -n);
        }
        Hand.paper(c, 0, 1, 2, 3, 1);
        return c;
    }

    private static void holdsUnder(int truths, int k) {
        int places = Integer.bitCount(truths) + (truths & 1);
        boolean first = (truths & 1) == 1;
        ClauseCourt c = assuming(truths);
        holdsIf(places > 0, c, c.clause(0), "0");
        c = assuming(truths);
        holdsIf(places <= k, c, c.atMost(0, k), "10");
        c = assuming(truths);
        holdsIf(places == k, c, c.group(0, k), "20 10");
        c = assuming(truths);
        holdsIf(places % 2 == k % 2, c, c.parity(0, k % 2 == 1), "30");
        c = assuming(truths);
        holdsIf(!first || Integer.bitCount(truths) == 1, c, Hand.told(c, ">(x1,j(x3,x2,x1))"), "40");
        c = assuming(truths);
        holdsIf(truths == 2 || truths == 6, c, Hand.told(c, "!|(x1,!x2)"), "40");
        c = assuming(truths);
        holdsIf(!first && truths != 2, c, Hand.told(c, "&(!x1,>(x2,x3))"), "40");
    }

    /** YES keeps every RULE, so HOLDS can only say 1, and where it would not, SOLVING says NO. */
    private static void holdsIf(boolean kept, ClauseCourt c, int rule, String trace) {
        due.is("solve", kept ? 1 : 0, c.solve(500));
        due.is("HOLDS", kept ? 1 : STATE, c.ask(rule, 0));
        if (kept) {
            due.is("TRACE", trace, Hand.trace(c, trace.split(" ").length));
        } else {
            due.is("TRACE", NONE, c.trace(0));
        }
    }

    private static void leastMostLaid() {
        ClauseCourt c = ofAllKinds();
        int[] least = {1, 0, 2, 1, 1};
        int[] most = {3, 2, 2, 3, 1};
        String[] leastTrace = {"1 51", "11 1 51", "21", "31 51", "1 51"};
        String[] mostTrace = {"52", "12 52", "12 52", "32 52", "42"};
        for (int rule = 0; rule < 5; rule++) {
            due.is("LEAST of " + rule, least[rule], c.ask(rule, 1));
            due.is("TRACE", leastTrace[rule], Hand.trace(c, leastTrace[rule].split(" ").length));
            due.is("MOST of " + rule, most[rule], c.ask(rule, 2));
            due.is("TRACE", mostTrace[rule], Hand.trace(c, mostTrace[rule].split(" ").length));
            int rows = 0;
            while (c.rows(rule, rows) != NONE) {
                rows++;
            }
            due.is("LAID of " + rule, rows, c.ask(rule, 3));
            due.is("TRACE", 53, c.trace(0));
        }
        Hand.paper(c, 0, 1, 2, 3);
        int even = c.parity(0, false);
        due.is("LEAST of even", 0, c.ask(even, 1));
        due.is("MOST of even", 2, c.ask(even, 2));
        Hand.paper(c, 0, 1, 2);
        due.is("MOST of odd of 2", 1, c.ask(c.parity(0, true), 2));
        due.is("MOST of even of 2", 2, c.ask(c.parity(0, false), 2));
        due.is("MOST of most 12 of 2", 2, c.ask(c.atMost(0, 12), 2));
        due.is("LEAST of just 9 of 2", 9, c.ask(c.group(0, 9), 1));
        due.is("MOST of just 9 of 2", 2, c.ask(c.group(0, 9), 2));
        Hand.paper(c, 0);
        due.is("MOST of odd of none", -1, c.ask(c.parity(0, true), 2));
    }

    private static void prints() {
        ClauseCourt c = ofAllKinds();
        String[] texts = {"some(1,-2,3)", "most 2(1,-2,3)", "just most 2(1,-2,3)", "odd(1,-2,3)", "&(x1,!x2)"};
        String[] traces = {"4 64", "14 64", "24 14 64", "34 64", "44"};
        for (int rule = 0; rule < 5; rule++) {
            due.is("print(" + rule + ")", texts[rule].length(), c.print(rule));
            due.is("OUT", texts[rule], Hand.out(c));
            due.is("TRACE", traces[rule], Hand.trace(c, traces[rule].split(" ").length));
        }
        due.is("print(-1)", BAD, c.print(-1));
        due.is("print(5)", BAD, c.print(5));
        due.is("OUT stays", "&(x1,!x2)", Hand.out(c));
        due.is("out(-1)", NONE, c.out(-1));
        due.is("out(9)", NONE, c.out(9));
        due.is("about(9)", 9, c.about(9));
        Hand.paper(c, 0);
        c.print(c.parity(0, false));
        due.is("OUT", "even()", Hand.out(c));
        Hand.paper(c, 0, -4);
        c.print(c.atMost(0, 12));
        due.is("OUT", "most 12(-4)", Hand.out(c));
    }

    private static void exports() {
        ClauseCourt c = new ClauseCourt();
        due.is("export of nothing", 0, c.export());
        due.is("out(0)", NONE, c.out(0));
        c.names(300);
        Hand.clause(c, -300, 10, -9);
        Hand.clause(c);
        Hand.clause(c, 100, -10);
        String text = "-300 10 -9 0\n0\n100 -10 0\n";
        due.is("export", text.length(), c.export());
        due.is("OUT", text, Hand.out(c));
        due.is("about(9)", text.length(), c.about(9));
        due.is("TRACE", NONE, c.trace(0));
    }
}
