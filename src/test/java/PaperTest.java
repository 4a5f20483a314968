/** Promises 1 to 10: a new object, NAMES, PAPER and TAPE. */
public final class PaperTest {
    private static final int BAD = ClauseCourt.BAD;
    private static final int FULL = ClauseCourt.FULL;
    private static final int NOTHING = ClauseCourt.NOTHING;
    private static final int BEYOND = ClauseCourt.BEYOND;
    private static final int SIZE = ClauseCourt.SIZE;
    private static final long LONG = 10000000000L;
    private static final Due due = new Due("PaperTest");

    public static void main(String[] args) {
        newObject();
        names();
        rowAndDrop();
        putAndGet();
        copy();
        cut();
        tape();
        due.end();
    }

    private static void newObject() {
        ClauseCourt c = new ClauseCourt();
        for (int what = 0; what <= 9; what++) {
            due.is("about(" + what + ") of a new one", 0, c.about(what));
        }
        due.is("status of a new one", 0, c.status());
        due.is("kind(0) of a new one", BAD, c.kind(0));
        for (int r = 0; r < 40; r++) {
            due.is("get of a new one", LONG * NOTHING, c.get(r, -1));
        }
    }

    private static void names() {
        ClauseCourt c = new ClauseCourt();
        due.is("names(0)", 0, c.names(0));
        due.is("names(-1)", BAD, c.names(-1));
        due.is("names(301)", BAD, c.names(301));
        due.is("names(300)", 300, c.names(300));
        due.is("names(0) when full", 300, c.names(0));
        due.is("names(1) when full", FULL, c.names(1));
        due.is("names(301) when full", BAD, c.names(301));
        due.is("about(0)", 300, c.about(0));
        ClauseCourt d = new ClauseCourt();
        due.is("names(200)", 200, d.names(200));
        due.is("names(101)", FULL, d.names(101));
        due.is("status", FULL, d.status());
        due.is("names(100)", 300, d.names(100));
    }

    private static void rowAndDrop() {
        ClauseCourt c = new ClauseCourt();
        due.is("row(-1)", BAD, c.row(-1, 3));
        due.is("row(40)", BAD, c.row(40, 3));
        due.is("row(0, 13)", BAD, c.row(0, 13));
        due.is("row(40, -1)", BAD, c.row(40, -1));
        due.is("row(0, -1)", SIZE, c.row(0, -1));
        due.is("row(0, MIN)", SIZE, c.row(0, Integer.MIN_VALUE));
        due.is("get behind refused rows", LONG * NOTHING, c.get(0, -1));
        due.is("row(0, 0)", 0, c.row(0, 0));
        due.is("get(0, -1)", 0, c.get(0, -1));
        due.is("get(0, 0)", LONG * BEYOND, c.get(0, 0));
        due.is("row(39, 12)", 12, c.row(39, 12));
        due.is("put(39, 11, 5)", 1, c.put(39, 11, 5));
        due.is("row(39, 12) again", 12, c.row(39, 12));
        due.is("get(39, 11)", 0, c.get(39, 11));
        due.is("drop(39)", 1, c.drop(39));
        due.is("drop(39) again", 1, c.drop(39));
        due.is("get(39, -1)", LONG * NOTHING, c.get(39, -1));
        due.is("drop(-1)", BAD, c.drop(-1));
        due.is("drop(40)", BAD, c.drop(40));
        due.is("status", BAD, c.status());
    }

    private static void putAndGet() {
        ClauseCourt c = new ClauseCourt();
        due.is("put of no row", BAD, c.put(40, 0, 1));
        due.is("put of no row", BAD, c.put(-1, 0, 1));
        due.is("put of a missing one", NOTHING, c.put(3, 0, 1));
        due.is("put of a missing one", NOTHING, c.put(3, -7, 1));
        c.row(3, 2);
        due.is("put behind the end", BEYOND, c.put(3, 2, 1));
        due.is("put ahead of all", BEYOND, c.put(3, -1, 1));
        due.is("put", 1, c.put(3, 1, Integer.MIN_VALUE));
        due.is("get", Integer.MIN_VALUE, c.get(3, 1));
        due.is("get", 0, c.get(3, 0));
        due.is("get(3, -1)", 2, c.get(3, -1));
        due.is("get(3, -2)", LONG * BEYOND, c.get(3, -2));
        due.is("status behind get", BEYOND, c.status());
        due.is("get(3, 2)", LONG * BEYOND, c.get(3, 2));
        due.is("get(40, -1)", LONG * BAD, c.get(40, -1));
        due.is("status behind get", BAD, c.status());
        due.is("get(-1, 0)", LONG * BAD, c.get(-1, 0));
        due.is("get(4, 0)", LONG * NOTHING, c.get(4, 0));
        due.is("status behind get", NOTHING, c.status());
    }

    private static ClauseCourt filled() {
        ClauseCourt c = new ClauseCourt();
        c.row(0, 5);
        for (int i = 0; i < 5; i++) {
            c.put(0, i, 10 + i);
        }
        c.row(1, 3);
        return c;
    }

    private static String told(ClauseCourt c, int r) {
        StringBuilder text = new StringBuilder();
        for (int i = 0; i < c.get(r, -1); i++) {
            text.append(c.get(r, i)).append(' ');
        }
        return text.toString();
    }

    private static void copy() {
        ClauseCourt c = filled();
        due.is("copy", 2, c.copy(0, 3, 1, 1, 2));
        due.is("row 1", "0 13 14 ", told(c, 1));
        due.is("copy onto itself, forward", 4, c.copy(0, 0, 0, 1, 4));
        due.is("row 0", "10 10 11 12 13 ", told(c, 0));
        due.is("copy onto itself, back", 4, c.copy(0, 1, 0, 0, 4));
        due.is("row 0", "10 11 12 13 13 ", told(c, 0));
        due.is("copy none at the end", 0, c.copy(0, 5, 1, 3, 0));
        due.is("copy none behind the end", BEYOND, c.copy(0, 6, 1, 3, 0));
        due.is("copy none behind the end", BEYOND, c.copy(0, 5, 1, 4, 0));
        due.is("copy too many", BEYOND, c.copy(0, 3, 1, 0, 3));
        due.is("copy too many", BEYOND, c.copy(0, 0, 1, 0, 4));
        due.is("copy below 0", BEYOND, c.copy(0, -1, 1, 0, 1));
        due.is("copy below 0", BEYOND, c.copy(0, 0, 1, -1, 1));
        due.is("copy below 0", BEYOND, c.copy(0, 0, 1, 0, -1));
        due.is("copy far", BEYOND, c.copy(0, Integer.MAX_VALUE, 1, Integer.MAX_VALUE, Integer.MAX_VALUE));
        due.is("copy far", BEYOND, c.copy(0, 1, 1, 1, Integer.MAX_VALUE));
        due.is("copy from a missing one", NOTHING, c.copy(2, -1, 1, 0, 1));
        due.is("copy to a missing one", NOTHING, c.copy(0, 0, 2, 0, 1));
        due.is("copy to no row", BAD, c.copy(2, 0, 40, 0, 1));
        due.is("copy from no row", BAD, c.copy(-1, 0, 2, 0, 1));
        due.is("row 1", "0 13 14 ", told(c, 1));
        due.is("row 0", "10 11 12 13 13 ", told(c, 0));
    }

    private static void cut() {
        ClauseCourt c = filled();
        due.is("cut(0, 6)", BEYOND, c.cut(0, 6));
        due.is("cut(0, 5)", 5, c.cut(0, 5));
        due.is("cut(0, 2)", 2, c.cut(0, 2));
        due.is("row 0", "10 11 ", told(c, 0));
        due.is("cut(0, 3)", BEYOND, c.cut(0, 3));
        due.is("cut(0, 13)", BAD, c.cut(0, 13));
        due.is("cut(40, -1)", BAD, c.cut(40, -1));
        due.is("cut(0, -1)", SIZE, c.cut(0, -1));
        due.is("cut(2, -1)", SIZE, c.cut(2, -1));
        due.is("cut(2, 12)", NOTHING, c.cut(2, 12));
        due.is("cut(0, 0)", 0, c.cut(0, 0));
        due.is("get(0, -1)", 0, c.get(0, -1));
    }

    private static void tape() {
        ClauseCourt c = new ClauseCourt();
        due.is("feed(.., 0)", BAD, c.feed(1, 0));
        due.is("feed(.., 9)", BAD, c.feed(1, 9));
        due.is("wipe", 0, c.wipe());
        for (int i = 1; i <= 7; i++) {
            due.is("feed", 8 * i, c.feed(-1L, 8));
        }
        due.is("feed too many", FULL, c.feed(0, 5));
        due.is("feed(.., 9) when full", BAD, c.feed(0, 9));
        due.is("about(8)", 56, c.about(8));
        due.is("feed", 60, c.feed(0, 4));
        due.is("feed one more", FULL, c.feed(0, 1));
        due.is("wipe", 60, c.wipe());
        due.is("wipe again", 0, c.wipe());
        c.names(12);
        due.is("feed the lowest bytes only", 3, c.feed(0x2121212121L << 24 | 'x' << 16 | '1' << 8 | '2', 3));
        due.is("told", 0, c.told());
        due.is("print", 3, c.print(0));
        due.is("out(0)", 'x', c.out(0));
        due.is("out(1)", '1', c.out(1));
        due.is("out(2)", '2', c.out(2));
    }
}
