/** Promises 53 to 56: TRACE, digest, status and about. */
public final class TellingTest {
    private static final int BAD = ClauseCourt.BAD;
    private static final int STATE = ClauseCourt.STATE;
    private static final int FULL = ClauseCourt.FULL;
    private static final int NONE = ClauseCourt.NONE;
    private static final int NOTHING = ClauseCourt.NOTHING;
    private static final int BEYOND = ClauseCourt.BEYOND;
    private static final int CAST = ClauseCourt.CAST;
    private static final int SIZE = ClauseCourt.SIZE;
    private static final Due due = new Due("TellingTest");

    public static void main(String[] args) {
        constants();
        trace();
        digest();
        status();
        about();
        due.end();
    }

    private static void constants() {
        int[] all = {BAD, STATE, FULL, ClauseCourt.SPENT, NONE, NOTHING, BEYOND, CAST, SIZE};
        int[] told = {-1001, -1002, -1003, -1004, -1005, -1011, -1012, -1013, -1014};
        for (int i = 0; i < all.length; i++) {
            due.is("constant " + i, told[i], all[i]);
        }
    }

    private static void trace() {
        ClauseCourt c = Hand.withNames(1);
        due.is("trace(0)", NONE, c.trace(0));
        int rule = Hand.clause(c, 1);
        due.is("laying is no ACT", NONE, c.trace(0));
        c.ask(rule, 3);
        due.is("trace(0)", 53, c.trace(0));
        due.is("trace(1)", NONE, c.trace(1));
        due.is("trace(-1)", NONE, c.trace(-1));
        due.is("status", 0, c.status());
        c.ask(rule, 2);
        due.is("trace(0)", 52, c.trace(0));
        due.is("trace(1)", 53, c.trace(1));
        for (int i = 0; i < 49; i++) {
            c.ask(rule, 1);
        }
        due.is("trace(99)", 53, c.trace(99));
        due.is("trace(98)", 52, c.trace(98));
        c.print(rule);
        due.is("the 100 latest", 1, c.trace(99));
        due.is("trace(0)", 64, c.trace(0));
        due.is("trace(1)", 4, c.trace(1));
        due.is("trace(100)", NONE, c.trace(100));
        due.is("trace(MAX)", NONE, c.trace(Integer.MAX_VALUE));
        for (int i = 0; i < 120; i++) {
            c.ask(rule, 3);
        }
        due.is("trace(99)", 53, c.trace(99));
    }

    private static long sum(int... numbers) {
        long sum = 7;
        for (int v : numbers) {
            sum = 31 * sum + v;
        }
        return sum;
    }

    private static int[] joined(int[]... parts) {
        return java.util.Arrays.stream(parts).flatMapToInt(java.util.Arrays::stream).toArray();
    }

    private static int[] missing(int rows) {
        int[] all = new int[rows];
        java.util.Arrays.fill(all, -1);
        return all;
    }

    private static void digest() {
        ClauseCourt c = new ClauseCourt();
        int[] end = {0, 0, 0};
        due.is("digest of a new one", sum(joined(new int[] {0, 0}, missing(40), end)), c.digest());
        c.names(2);
        c.weight(2, 9);
        Hand.clause(c, -2, 1);
        Hand.clause(c);
        c.drop(39);
        c.row(1, 2);
        c.put(1, 1, -77);
        c.row(3, 0);
        c.assume(-2);
        c.begin(4);
        c.forget(5);
        c.counted(2, true);
        c.next(1);
        int[] before = {2, 0, 9, -2, 1, 0, 0, -2, 0, -1, 2, 0, -77, -1, 0};
        due.is("digest", sum(joined(before, missing(36), new int[] {4, 5, 0, 1, 0})), c.digest());
        Hand.told(c, "x1");
        int[] more = {2, 0, 9, -2, 1, 0, 0, 1, 0, -2, 0, -1, 2, 0, -77, -1, 0};
        due.is("digest", sum(joined(more, missing(36), new int[] {4, 5, 0, 1, 0})), c.digest());
        ClauseCourt d = Hand.withNames(1);
        d.next(5);
        due.is("a BARRED ROW", sum(joined(new int[] {1, 0, 0}, missing(40), new int[] {0, 0, 0, 1})), d.digest());
        due.is("digest changes nothing", d.digest(), d.digest());
        d.solve(0);
        due.is("what is refused changes nothing",
                sum(joined(new int[] {1, 0, 0}, missing(40), new int[] {0, 0, 0, 1})), d.digest());
    }

    private static void status() {
        ClauseCourt c = Hand.withNames(1);
        due.is("status", 0, c.status());
        c.row(0, -1);
        due.is("status", SIZE, c.status());
        c.put(0, 0, 0);
        due.is("status", NOTHING, c.status());
        c.row(0, 1);
        due.is("what is well leaves it", NOTHING, c.status());
        c.put(0, 1, 0);
        due.is("status", BEYOND, c.status());
        c.get(40, 0);
        due.is("as elsewhere, not as get() tells it", BAD, c.status());
        Hand.told(c, "!");
        due.is("a FAULT", -2001, c.status());
        c.goOn(1);
        due.is("status", STATE, c.status());
        c.trace(0);
        c.out(0);
        c.line(0, 0);
        c.proof(0, 0);
        c.strike(0);
        c.forcedAt(0);
        c.quarrel(0);
        c.refusedAt();
        due.is("not by NONE", STATE, c.status());
        c.names(300);
        due.is("status", FULL, c.status());
        Hand.clause(c, 1);
        c.as(0, 3);
        due.is("status", CAST, c.status());
        c.names(1);
        due.is("solve", ClauseCourt.SPENT, c.solve(1));
        due.is("count", ClauseCourt.SPENT, c.count(1, 1));
        due.is("not by SPENT", CAST, c.status());
    }

    private static void about() {
        ClauseCourt c = Hand.withNames(3);
        Hand.clause(c, 1, 2);
        Hand.paper(c, 0, 1, 2, 3);
        c.parity(0, true);
        c.assume(1);
        c.counted(1, true);
        c.counted(2, true);
        c.next(100);
        c.next(100);
        Hand.claim(c, 1);
        Hand.claim(c, 2);
        Hand.claim(c, 3);
        c.feed(0, 7);
        c.print(0);
        int[] told = {5, 2, 10, 2 + 24 + 1, 1, 2, 3, 2, 7, "some(1,2)".length()};
        for (int what = 0; what <= 9; what++) {
            due.is("about(" + what + ")", told[what], c.about(what));
        }
        due.is("status", 0, c.status());
        due.is("about(-1)", BAD, c.about(-1));
        due.is("about(10)", BAD, c.about(10));
        due.is("status", BAD, c.status());
    }
}
