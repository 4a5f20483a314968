import java.util.ArrayList;
import java.util.Arrays;
import java.util.LinkedHashSet;
import java.util.List;
import java.util.Map;
import java.util.Set;
import java.util.TreeMap;
import java.util.function.Supplier;
import java.util.function.ToLongFunction;

/** Part 2 and promises 11 to 14, sentence by sentence: RULES of ROWS, what they are laid as, and when there are too many. */
public final class RuleEdgesTest {
    private static final int BAD = ClauseCourt.BAD;
    private static final int STATE = ClauseCourt.STATE;
    private static final int FULL = ClauseCourt.FULL;
    private static final int NONE = ClauseCourt.NONE;
    private static final int NOTHING = ClauseCourt.NOTHING;
    private static final int BEYOND = ClauseCourt.BEYOND;
    private static final int MIN = Integer.MIN_VALUE;
    private static final int MAX = Integer.MAX_VALUE;
    private static final Edge edge = new Edge("RuleEdgesTest");

    public static void main(String[] args) {
        rowsRefused();
        boundsRefused();
        itemsLookedFor();
        itemsAsTheyCome();
        clausesLaid();
        sumsLaid();
        groupsLaid();
        paritiesLaid();
        sameOneTwice();
        placesCounted();
        fullOfRules();
        fullOfNames();
        fullOfRows();
        fullOfItems();
        fullBehindFindings();
        edge.end();
    }

    /** A call for each KIND that is of a ROW, by its promise. */
    private static Map<Integer, ToLongFunction<ClauseCourt>> ofRow(int r) {
        Map<Integer, ToLongFunction<ClauseCourt>> calls = new TreeMap<>();
        calls.put(11, c -> c.clause(r));
        calls.put(12, c -> c.atMost(r, 1));
        calls.put(13, c -> c.group(r, 1));
        calls.put(14, c -> c.parity(r, true));
        calls.put(41, c -> c.claim(r));
        return calls;
    }

    private static void rowsRefused() {
        for (int r : new int[] {-1, 40, MIN, MAX}) {
            ofRow(r).forEach((promise, call) -> {
                edge.of(promise.toString(), "BAD: r");
                edge.refusedAnywhere("ROW " + r, BAD, call);
            });
        }
        ofRow(38).forEach((promise, call) -> {
            edge.of(promise.toString(), "NOTHING: the ROW");
            edge.refusedAnywhere("a MISSING ROW", NOTHING, call);
        });
    }

    private static void boundsRefused() {
        for (int k : new int[] {-1, 13, MIN, MAX}) {
            edge.of("12", "BAD: r, k (0 .. 12)");
            edge.refusedAnywhere("atMost(0, " + k + ")", BAD, c -> c.atMost(0, k));
            edge.refusedAnywhere("BAD ahead of NOTHING: atMost(38, " + k + ")", BAD, c -> c.atMost(38, k));
            edge.refusedInScenes("BAD ahead of BEYOND: atMost(2, " + k + ")", BAD, c -> c.atMost(2, k));
            edge.of("13", "BAD: r, k (0 .. 12)");
            edge.refusedAnywhere("group(0, " + k + ")", BAD, c -> c.group(0, k));
            edge.refusedAnywhere("BAD ahead of NOTHING: group(38, " + k + ")", BAD, c -> c.group(38, k));
            edge.refusedInScenes("BAD ahead of BEYOND: group(2, " + k + ")", BAD, c -> c.group(2, k));
        }
        for (int k : new int[] {0, 12}) {
            edge.is("atMost(0, " + k + ")", 7, Scenes.yes().atMost(0, k));
            edge.is("group(0, " + k + ")", 7, Scenes.yes().group(0, k));
        }
    }

    private static ClauseCourt paper(int names, int... numbers) {
        ClauseCourt c = Hand.withNames(names);
        Hand.paper(c, 0, numbers);
        return c;
    }

    private static void itemsLookedFor() {
        for (int v : new int[] {0, 301, -301, MIN, MAX}) {
            ofRow(0).forEach((promise, call) -> {
                edge.of(promise.toString(), "0, above 300, below -300: BEYOND");
                edge.refused("number " + v, BEYOND, () -> paper(4, v), call);
                edge.refused("number " + v + " of 300 NAMES", BEYOND, () -> paper(300, v), call);
            });
        }
        for (int v : new int[] {5, -5, 300, -300}) {
            ofRow(0).forEach((promise, call) -> {
                edge.of(promise.toString(), "a NAME that there is not (yet): NOTHING");
                edge.refused("number " + v + " of 4 NAMES", NOTHING, () -> paper(4, v), call);
                ClauseCourt c = paper(4, v);
                c.names(296);
                edge.is("it is there now: " + v, promise == 41 ? 1 : 0, call.applyAsLong(c));
            });
        }
        for (int v : new int[] {1, -1, 4, -4}) {
            ofRow(0).forEach((promise, call) -> {
                edge.of(promise.toString(), "a NAME n, or -n");
                edge.is("number " + v + " of 4 NAMES", promise == 41 ? 1 : 0, call.applyAsLong(paper(4, v)));
            });
        }
    }

    private static void itemsAsTheyCome() {
        ofRow(0).forEach((promise, call) -> {
            edge.of(promise.toString(), "BEYOND, NOTHING: its numbers, as they come");
            edge.refused("NOTHING comes first", NOTHING, () -> paper(4, 1, 5, 0), call);
            edge.refused("BEYOND comes first", BEYOND, () -> paper(4, 1, 301, 5), call);
            edge.refused("the last of 12", NOTHING, () -> paper(4, 1, 1, 1, 1, 1, 1, 1, 1, 1, 1, 1, 5), call);
            edge.refused("the last of 12", BEYOND, () -> paper(4, 1, 1, 1, 1, 1, 1, 1, 1, 1, 1, 1, 0), call);
        });
        ofRow(2).forEach((promise, call) -> {
            edge.of(promise.toString(), "nothing is changed then but status()");
            edge.refusedInScenes("a ROW of any ints", BEYOND, call);
        });
    }

    private static String laid(int names, ToLongFunction<ClauseCourt> call, int... numbers) {
        ClauseCourt c = paper(names, numbers);
        return Hand.laid(c, (int) call.applyAsLong(c));
    }

    private static void clausesLaid() {
        edge.of("11", "a ROW has each of its ITEMS once, where it stands first");
        edge.is("CLAUSE", "3 -1 2", laid(3, c -> c.clause(0), 3, -1, 3, 2, -1, 2));
        edge.is("an ITEM and its CONTRARY are two", "2 -2", laid(3, c -> c.clause(0), 2, -2, 2));
        edge.is("12 of 12", "1 2 3 4 5 6 7 8 9 10 11 12", laid(12, c -> c.clause(0), 1, 2, 3, 4, 5, 6, 7, 8, 9, 10, 11, 12));
        edge.of("11", "CLAUSE: x1 .. xn");
        ClauseCourt c = paper(3);
        edge.is("without ITEMS", 0, c.clause(0));
        edge.is("it is laid as one ROW", 1, c.about(2));
        edge.is("without ITEMS", 0, c.line(0, -1));
        edge.is("no truth keeps it", 0, c.solve(1));
        edge.of("11", "numbered from 0 on");
        edge.is("the next", 1, Hand.clause(c, 1));
        edge.is("and its ROW", 1, c.rows(1, 0));
    }

    /** S(i, j) by the words of the document, once more and apart from the class. */
    private static List<String> sums(int[] x, int k, int names) {
        List<String> rows = new ArrayList<>();
        int n = x.length;
        int[][] s = new int[n + 1][k + 2];
        int made = names;
        for (int i = 1; i <= n; i++) {
            for (int j = 1; j <= Math.min(i, k + 1); j++) {
                if (i == 1) {
                    s[1][1] = x[0];
                    continue;
                }
                made++;
                s[i][j] = made;
                int xi = x[i - 1];
                if (j == i) {
                    int q = s[i - 1][j - 1];
                    rows.addAll(List.of(row(-xi, -q, made), row(xi, -made), row(q, -made)));
                } else if (j == 1) {
                    int p = s[i - 1][1];
                    rows.addAll(List.of(row(-p, made), row(-xi, made), row(p, xi, -made)));
                } else {
                    int p = s[i - 1][j];
                    int q = s[i - 1][j - 1];
                    rows.addAll(List.of(row(-p, made), row(-xi, -q, made), row(p, xi, -made), row(p, q, -made)));
                }
            }
        }
        if (n > k) {
            rows.add(row(-s[n][k + 1]));
        }
        rows.add("S(n, k) is " + (k > 0 && k <= n ? s[n][k] : 0));
        return rows;
    }

    private static String row(int... items) {
        Set<String> once = new LinkedHashSet<>();
        for (int v : items) {
            once.add(Integer.toString(v));
        }
        return String.join(" ", once);
    }

    private static int[] upTo(int n) {
        int[] all = new int[n];
        for (int i = 0; i < n; i++) {
            all[i] = i % 3 == 1 ? -i - 1 : i + 1;
        }
        return all;
    }

    /** A court is asked for 60 ROWS at most, as 512 calls are all that it is made for. */
    private static void isLaidAs(String what, List<String> rows, int n, ToLongFunction<ClauseCourt> call) {
        ClauseCourt c = paper(12, upTo(n));
        edge.is(what, 0, call.applyAsLong(c));
        edge.is(what + " is laid as so many ROWS", rows.size(), c.about(2));
        for (int k = 0; k < rows.size(); k++) {
            if (k > 0 && k % 60 == 0) {
                c = paper(12, upTo(n));
                call.applyAsLong(c);
            }
            edge.is(what + ", ROW " + k, rows.get(k), Hand.line(c, k));
            edge.is(what + ", its number", k, c.rows(0, k));
        }
        edge.is(what + ", no ROW more", NONE, c.rows(0, rows.size()));
    }

    private static void sumsLaid() {
        edge.of("12", "ATMOST with k: S(i, j). At last: if n is above k: -S(n, k + 1)");
        for (int n = 0; n <= 12; n++) {
            for (int bound = 0; bound <= 12; bound++) {
                int k = bound;
                List<String> rows = sums(upTo(n), k, 12);
                rows.remove(rows.size() - 1);
                isLaidAs("most " + k + " of " + n, rows, n, c -> c.atMost(0, k));
            }
        }
        edge.is("none of one", "-1", laid(1, c -> c.atMost(0, 0), 1));
        edge.is("one of one is no ROW", "", laid(1, c -> c.atMost(0, 1), 1));
        edge.is("none of none is no ROW", "", laid(1, c -> c.atMost(0, 0)));
        edge.is("one of two", "-1 3; -2 3; 1 2 -3; -2 -1 4; 2 -4; 1 -4; -4", laid(2, c -> c.atMost(0, 1), 1, 2));
        edge.is("two of two", "-1 3; -2 3; 1 2 -3; -2 -1 4; 2 -4; 1 -4", laid(2, c -> c.atMost(0, 2), 1, 2));
    }

    private static void groupsLaid() {
        edge.of("13", "GROUP behind it: if k is above n: a ROW without ITEMS, else if k is above 0: S(n, k)");
        for (int n = 0; n <= 12; n++) {
            for (int bound = 0; bound <= 12; bound++) {
                int k = bound;
                List<String> rows = sums(upTo(n), k, 12);
                String last = rows.remove(rows.size() - 1).substring("S(n, k) is ".length());
                if (k > n) {
                    rows.add("");
                } else if (k > 0) {
                    rows.add(last);
                }
                isLaidAs("just " + k + " of " + n, rows, n, c -> c.group(0, k));
            }
        }
        edge.is("one of one", "1", laid(1, c -> c.group(0, 1), 1));
        edge.is("none of one", "-1", laid(1, c -> c.group(0, 0), 1));
        edge.is("none of none is no ROW", 0, paper(1).group(0, 0));
        edge.is("just one of two", "-1 3; -2 3; 1 2 -3; -2 -1 4; 2 -4; 1 -4; -4; 3", laid(2, c -> c.group(0, 1), 1, 2));
    }

    private static void paritiesLaid() {
        edge.of("14", "with n = 0: a ROW without ITEMS, if odd, else none");
        ClauseCourt c = paper(3);
        edge.is("odd", 0, c.parity(0, true));
        edge.is("ROWS", 1, c.about(2));
        edge.is("its ITEMS", 0, c.line(0, -1));
        edge.is("even", 1, c.parity(0, false));
        edge.is("ROWS", 1, c.about(2));
        edge.of("14", "P(1) is x1; at last P(n), if odd, else -P(n)");
        edge.is("odd of one", "-2", laid(3, d -> d.parity(0, true), -2));
        edge.is("even of one", "2", laid(3, d -> d.parity(0, false), -2));
        edge.is("odd of two", "-1 -2 -4; 1 2 -4; 1 -2 4; -1 2 4; 4", laid(3, d -> d.parity(0, true), 1, 2));
        edge.is("even of two", "-1 -2 -4; 1 2 -4; 1 -2 4; -1 2 4; -4", laid(3, d -> d.parity(0, false), 1, 2));
        ClauseCourt twelve = paper(12, upTo(12));
        twelve.parity(0, true);
        edge.is("odd of twelve: ROWS", 45, twelve.about(2));
        edge.is("odd of twelve: NAMES", 23, twelve.about(0));
        edge.is("its last ROW", "23", Hand.line(twelve, 44));
    }

    private static void sameOneTwice() {
        edge.of("12", "x1 .. xn are a RULE's ITEMS, by the ROW's places (the same one may stand twice)");
        edge.is("most 1 of 1 1", "-1 2; -1 2; 1 -2; -1 3; 1 -3; 1 -3; -3", laid(1, c -> c.atMost(0, 1), 1, 1));
        edge.is("most 1 of 1 -1", "-1 2; 1 2; 1 -1 -2; 1 -1 3; -1 -3; 1 -3; -3", laid(1, c -> c.atMost(0, 1), 1, -1));
        edge.is("even of 1 1", "-1 -2; 1 -2; 1 -1 2; -1 1 2; -2", laid(1, c -> c.parity(0, false), 1, 1));
        ClauseCourt c = paper(1, 1, 1);
        c.atMost(0, 1);
        edge.is("n", 2, c.item(0, -1));
        edge.is("solve", 1, c.solve(99));
        edge.is("truth(1)", 0, c.truth(1));
        edge.is("two places are TRUE with one NAME", 0, assuming(c, 1));
        ClauseCourt d = paper(1, 1, 1);
        d.group(0, 2);
        edge.is("just 2 of 1 1", 1, assuming(d, 1));
        ClauseCourt e = paper(1, 1, 1);
        e.parity(0, true);
        edge.is("odd of 1 1", 0, e.solve(99));
    }

    private static int assuming(ClauseCourt c, int v) {
        c.assume(v);
        return c.solve(5000);
    }

    /** So many of 12 places are TRUE. */
    private static ClauseCourt withTrue(int places) {
        ClauseCourt c = paper(12, 1, 2, 3, 4, 5, 6, 7, 8, 9, 10, 11, 12);
        for (int n = 1; n <= 12; n++) {
            c.assume(n <= places ? n : -n);
        }
        return c;
    }

    private static int solved(int places, ToLongFunction<ClauseCourt> call) {
        ClauseCourt c = withTrue(places);
        call.applyAsLong(c);
        int said = c.solve(5000);
        edge.is("HOLDS, as SOLVING said", said == 1 ? 1 : STATE, c.ask(0, 0));
        return said;
    }

    private static void placesCounted() {
        for (int bound = 0; bound <= 12; bound++) {
            int k = bound;
            for (int places = 0; places <= 12; places++) {
                edge.of("12", "ATMOST with k (0 .. 12): k places or fewer are");
                edge.is(places + " for most " + k, places <= k ? 1 : 0, solved(places, c -> c.atMost(0, k)));
                edge.of("13", "GROUP with k: just k are");
                edge.is(places + " for just " + k, places == k ? 1 : 0, solved(places, c -> c.group(0, k)));
            }
        }
        for (int places = 0; places <= 12; places++) {
            edge.of("11", "one of its ITEMS or more are TRUE");
            edge.is(places + " for some", places > 0 ? 1 : 0, solved(places, c -> c.clause(0)));
            edge.of("14", "how many are is odd, or (odd false) even");
            edge.is(places + " for odd", places % 2, solved(places, c -> c.parity(0, true)));
            edge.is(places + " for even", 1 - places % 2, solved(places, c -> c.parity(0, false)));
        }
    }

    // ---- FULL

    private static ClauseCourt rules(int so) {
        ClauseCourt c = paper(3, 1, 2);
        for (int i = 0; i < so; i++) {
            c.clause(0);
        }
        return c;
    }

    /** A RULE of each KIND, small enough for what is left, and the ITEMS of its ROWS. */
    private static final String[] SMALL = {"clause", "atMost", "group", "parity", "told"};
    private static final int[] SMALL_NAMES = {0, 1, 2, 1, 1};
    private static final int[] SMALL_ROWS = {1, 4, 8, 5, 4};
    private static final int[] SMALL_ITEMS = {2, 8, 16, 13, 8};

    /** ROW 0 has 1 2; the TEXT is told at once, so that TAPE is as empty behind it as ahead of it. */
    private static long lay(ClauseCourt c, int kind) {
        switch (kind) {
            case 0:
                return c.clause(0);
            case 1:
                return c.atMost(0, 0);
            case 2:
                return c.group(0, 1);
            case 3:
                return c.parity(0, true);
            default:
                c.feed('|' << 24 | '(' << 16 | 'x' << 8 | '1', 4);
                c.feed(',' << 24 | 'x' << 16 | '2' << 8 | ')', 4);
                return c.told();
        }
    }

    private static void fits(int kind, Supplier<ClauseCourt> justRoom, Supplier<ClauseCourt> tooLittle) {
        ClauseCourt c = justRoom.get();
        int before = c.about(1);
        edge.is(SMALL[kind] + " finds just room", before, lay(c, kind));
        edge.is("RULES behind it", before + 1, c.about(1));
        edge.refused(SMALL[kind] + " finds too little", FULL, tooLittle, d -> lay(d, kind));
    }

    private static void fullOfRules() {
        for (int kind = 0; kind < 5; kind++) {
            edge.of(Integer.toString(11 + kind), "RULES, 60 at most; FULL");
            fits(kind, () -> rules(59), () -> rules(60));
        }
        edge.of("12", "RULES, 60 at most; FULL");
        edge.refused("one that is laid as no ROW", FULL, () -> rules(60), c -> c.atMost(0, 0));
        edge.refused("even of none", FULL, () -> rules(60), c -> evenOfNone(c));
    }

    /** ROW 1 is MISSING ahead of it and behind it. */
    private static long evenOfNone(ClauseCourt c) {
        c.row(1, 0);
        long said = c.parity(1, false);
        c.drop(1);
        return said;
    }

    private static ClauseCourt names(int so) {
        return paper(so, 1, 2);
    }

    private static void fullOfNames() {
        for (int kind = 1; kind < 5; kind++) {
            int made = SMALL_NAMES[kind];
            edge.of(Integer.toString(11 + kind), "NAMES, 300 at most; FULL is told ahead of all laying");
            fits(kind, () -> names(300 - made), () -> names(301 - made));
        }
        edge.of("11", "NAMES, 300 at most");
        edge.is("a CLAUSE makes none", 0, lay(names(300), 0));
        ClauseCourt c = paper(223, 1, 2, 3, 4, 5, 6, 7, 8, 9, 10, 11, 12);
        edge.is("77 more: just 12 of 12", 0, c.group(0, 12));
        edge.is("about(0)", 300, c.about(0));
        edge.refused("77 more than 224", FULL, () -> paper(224, upTo(12)), d -> d.group(0, 12));
    }

    /** A PARITY of 12 is laid as 45 ROWS; a CLAUSE without ITEMS as one. */
    private static ClauseCourt rows(int so) {
        ClauseCourt c = paper(12, upTo(12));
        for (int i = 0; i < so / 45; i++) {
            c.parity(0, true);
        }
        c.row(0, 0);
        for (int i = 0; i < so % 45; i++) {
            c.clause(0);
        }
        Hand.paper(c, 0, 1, 2);
        return c;
    }

    private static void fullOfRows() {
        edge.of("11", "ROWS of the CASE (500 at most)");
        edge.is("about(2)", 499, rows(499).about(2));
        for (int kind = 0; kind < 5; kind++) {
            int laid = SMALL_ROWS[kind];
            edge.of(Integer.toString(11 + kind), "ROWS of the CASE (500 at most); FULL");
            fits(kind, () -> rows(500 - laid), () -> rows(501 - laid));
        }
        edge.of("12", "ROWS of the CASE (500 at most)");
        ClauseCourt c = rows(500);
        edge.is("about(2)", 500, c.about(2));
        Hand.paper(c, 0, 1);
        edge.is("one that is laid as no ROW", c.about(1), c.atMost(0, 1));
        edge.is("line(499, -1)", 0, c.line(499, -1));
    }

    /** Seven TEXTS are laid as 436 ROWS of 1,882 ITEMS; 52 CLAUSES bring what is wanted more. */
    private static ClauseCourt items(int so) {
        String eight = "j(x1,x2,x3,x4,x5,x6,x7,x8)";
        ClauseCourt c = paper(12, upTo(12));
        for (int i = 0; i < 5; i++) {
            feedFast(c, "&(" + eight + "," + eight + ")");
        }
        feedFast(c, eight);
        feedFast(c, "j(x1,x2,x3)");
        for (int i = 0; i < 52; i++) {
            c.cut(0, Math.min(12, so - c.about(3)));
            c.clause(0);
        }
        Hand.paper(c, 0, 1, 2);
        return c;
    }

    private static void feedFast(ClauseCourt c, String text) {
        for (int i = 0; i < text.length(); i += 8) {
            long w = 0;
            String part = text.substring(i, Math.min(i + 8, text.length()));
            for (char sign : part.toCharArray()) {
                w = w << 8 | sign;
            }
            c.feed(w, part.length());
        }
        c.told();
    }

    private static void fullOfItems() {
        edge.of("11", "ROWS of the CASE, with 2,500 ITEMS in all");
        edge.is("about(3)", 2499, items(2499).about(3));
        edge.is("about(2)", 488, items(2499).about(2));
        edge.is("about(1)", 59, items(2499).about(1));
        for (int kind = 0; kind < 5; kind++) {
            int more = SMALL_ITEMS[kind];
            edge.of(Integer.toString(11 + kind), "2,500 ITEMS in all; FULL");
            fits(kind, () -> items(2500 - more), () -> items(2501 - more));
        }
        edge.of("11", "ITEMS (counted as above, each once in its ROW)");
        ClauseCourt c = items(2498);
        Hand.paper(c, 0, 1, 2, 1, 2, 1, 2, 2);
        edge.is("two ITEMS, each more than once", 59, c.clause(0));
        edge.is("about(3)", 2500, c.about(3));
        ClauseCourt d = items(2500);
        Hand.paper(d, 0);
        edge.is("a ROW without ITEMS", 59, d.clause(0));
    }

    private static ClauseCourt wrongAnd(Supplier<ClauseCourt> full, int... numbers) {
        ClauseCourt c = full.get();
        Hand.paper(c, 0, numbers);
        return c;
    }

    private static void fullBehindFindings() {
        List<Supplier<ClauseCourt>> full = Arrays.asList(() -> rules(60), () -> rows(500), () -> items(2500));
        for (Supplier<ClauseCourt> scene : full) {
            for (int kind = 0; kind < 4; kind++) {
                int one = kind;
                edge.of(Integer.toString(11 + kind), "FULL is told behind what the act meets");
                edge.refused("BEYOND", BEYOND, () -> wrongAnd(scene, 1, 301), c -> lay(c, one));
                edge.refused("NOTHING", NOTHING, () -> wrongAnd(scene, 1, -300), c -> lay(c, one));
            }
            edge.of("11", "BAD; NOTHING: the ROW; FULL");
            edge.refused("a MISSING ROW", NOTHING, scene, c -> c.clause(38));
            edge.refused("no such ROW", BAD, scene, c -> c.clause(40));
            edge.refused("no such k", BAD, scene, c -> c.atMost(0, 13));
            edge.refused("no such k", BAD, scene, c -> c.group(0, -1));
        }
    }
}
