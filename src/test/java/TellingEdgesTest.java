import java.util.ArrayList;
import java.util.LinkedHashMap;
import java.util.List;
import java.util.Map;
import java.util.function.Supplier;
import java.util.function.ToLongFunction;

/** Promises 54 to 56 and the Terms, sentence by sentence: digest(), status(), about(), and that what is refused changes nothing. */
public final class TellingEdgesTest {
    private static final int BAD = ClauseCourt.BAD;
    private static final int STATE = ClauseCourt.STATE;
    private static final int FULL = ClauseCourt.FULL;
    private static final int SPENT = ClauseCourt.SPENT;
    private static final int NONE = ClauseCourt.NONE;
    private static final int NOTHING = ClauseCourt.NOTHING;
    private static final int BEYOND = ClauseCourt.BEYOND;
    private static final int CAST = ClauseCourt.CAST;
    private static final int SIZE = ClauseCourt.SIZE;
    private static final int MIN = Integer.MIN_VALUE;
    private static final int MAX = Integer.MAX_VALUE;
    private static final Edge edge = new Edge("TellingEdgesTest");

    public static void main(String[] args) {
        constants();
        digestOfANewOne();
        digestGoesRound();
        digestOfScenes();
        digestTellsEach();
        digestLeavesOut();
        statusAheadOfAny();
        statusTells();
        statusIsTheLatest();
        statusIsNotTold();
        abouts();
        aboutRefused();
        edge.end();
    }

    private static void constants() {
        edge.of("1", "BAD = -1001, STATE = -1002, FULL = -1003, SPENT = -1004, NONE = -1005, NOTHING = -1011, ..");
        edge.is("BAD", -1001, BAD);
        edge.is("STATE", -1002, STATE);
        edge.is("FULL", -1003, FULL);
        edge.is("SPENT", -1004, SPENT);
        edge.is("NONE", -1005, NONE);
        edge.is("NOTHING", -1011, NOTHING);
        edge.is("BEYOND", -1012, BEYOND);
        edge.is("CAST", -1013, CAST);
        edge.is("SIZE", -1014, SIZE);
    }

    // ---- digest()

    private static long sum(List<Long> numbers) {
        long sum = 7;
        for (long v : numbers) {
            sum = 31 * sum + v;
        }
        return sum;
    }

    /** What digest() goes over, of what the court itself tells; WEIGHTS, begin, forget and COUNTED as the test told them. */
    private static List<Long> gone(ClauseCourt c, Map<Integer, Integer> weights, int begin, int forget, List<Integer> counted,
            List<Integer> assumed) {
        List<Long> all = new ArrayList<>();
        int names = c.about(0);
        int rows = c.about(2);
        all.add((long) names);
        for (int n = 1; n <= names; n++) {
            all.add((long) weights.getOrDefault(n, 0));
        }
        for (int k = 0; k < rows; k++) {
            int items = c.line(k, -1);
            for (int i = 0; i < items; i++) {
                all.add((long) c.line(k, i));
            }
            all.add(0L);
        }
        for (int v : assumed) {
            all.add((long) v);
        }
        all.add(0L);
        for (int r = 0; r < 40; r++) {
            long size = c.get(r, -1);
            all.add(size < 0 ? -1 : size);
            for (int i = 0; i < size; i++) {
                all.add(c.get(r, i));
            }
        }
        all.add((long) begin);
        all.add((long) forget);
        for (int n = 1; n <= names; n++) {
            all.add(counted.contains(n) ? 1L : 0L);
        }
        all.add((long) c.about(5));
        return all;
    }

    private static void digestOfANewOne() {
        edge.of("54", "7 at first, for each number v 31 times that and v (going round)");
        List<Long> all = new ArrayList<>(List.of(0L, 0L));
        for (int r = 0; r < 40; r++) {
            all.add(-1L);
        }
        all.addAll(List.of(0L, 0L, 0L));
        edge.is("of a new one", sum(all), new ClauseCourt().digest());
        edge.leaves("digest()", sum(all), ClauseCourt::new, ClauseCourt::digest);
        edge.is("by the same words", sum(all), sum(gone(new ClauseCourt(), Map.of(), 0, 0, List.of(), List.of())));
    }

    private static void digestGoesRound() {
        edge.of("54", "(going round)");
        ClauseCourt c = Hand.withNames(300);
        Hand.paper(c, 0, MIN, MAX, MIN, -1, 0, 1, MAX, MAX, MIN, MIN, 7, -7);
        Hand.clause(c, -300, 300, 1);
        edge.is("of 300 NAMES and any ints", sum(gone(c, Map.of(), 0, 0, List.of(), List.of())), c.digest());
    }

    private static void digestOfScenes() {
        edge.of("54", "how many NAMES; of each its WEIGHT as told; of each ROW of the CASE its ITEMS and 0; ..");
        Map<Integer, Integer> weights = Map.of(2, 7, 6, 3);
        for (Map.Entry<String, Supplier<ClauseCourt>> scene : Scenes.all().entrySet()) {
            ClauseCourt c = scene.getValue().get();
            List<Integer> assumed = scene.getKey().equals("NO by d)") ? List.of(3, 4) : List.of(3);
            edge.is(scene.getKey(), sum(gone(c, weights, 3, 9, List.of(1, 3, 6), assumed)), c.digest());
        }
    }

    /** Each of these changes one number that digest() goes over. */
    private static void digestTellsEach() {
        edge.of("54", "the ASSUMED ITEMS and 0; of each ROW of PAPER ..; begin, forget as told; COUNTED; BARRED");
        Map<String, ToLongFunction<ClauseCourt>> calls = new LinkedHashMap<>();
        calls.put("names", c -> c.names(1));
        calls.put("weight", c -> c.weight(14, 1));
        calls.put("clause", c -> c.clause(1));
        calls.put("assume", c -> c.assume(-14));
        calls.put("free", c -> c.free());
        calls.put("row", c -> c.row(38, 0));
        calls.put("drop", c -> c.drop(1));
        calls.put("put", c -> c.put(2, 11, 8));
        calls.put("cut", c -> c.cut(2, 11));
        calls.put("begin", c -> c.begin(4));
        calls.put("forget", c -> c.forget(10));
        calls.put("counted", c -> c.counted(14, true));
        calls.put("not counted", c -> c.counted(1, false));
        calls.put("next", c -> c.next(5000));
        calls.put("unbar", c -> c.unbar());
        calls.put("told", c -> c.told());
        long before = Scenes.yes().digest();
        calls.forEach((what, call) -> {
            ClauseCourt c = Scenes.yes();
            call.applyAsLong(c);
            edge.is("digest() changes with " + what, 1, c.digest() == before ? 0 : 1);
        });
    }

    private static void digestLeavesOut() {
        edge.of("54", "what it goes over, and nothing else");
        Map<String, ToLongFunction<ClauseCourt>> calls = new LinkedHashMap<>();
        calls.put("a RULE laid as no ROW", c -> c.atMost(1, 0));
        calls.put("feed", c -> c.feed(0, 8));
        calls.put("wipe", c -> c.wipe());
        calls.put("print", c -> c.print(0));
        calls.put("claim", c -> c.claim(0));
        calls.put("strike", c -> c.strike(0));
        calls.put("check", c -> c.check());
        calls.put("solve", c -> c.solve(5000));
        calls.put("count", c -> c.count(64, 5000));
        calls.put("weight as it was", c -> c.weight(2, 7));
        long before = Scenes.yes().digest();
        calls.forEach((what, call) -> {
            ClauseCourt c = Scenes.yes();
            call.applyAsLong(c);
            edge.is("digest() behind " + what, before, c.digest());
        });
    }

    // ---- status()

    private static void statusAheadOfAny() {
        edge.of("55", "0 ahead of one");
        edge.leaves("status() of a new one", 0, ClauseCourt::new, ClauseCourt::status);
        ClauseCourt c = Hand.withNames(3);
        Hand.clause(c, 1, 2);
        c.assume(1);
        c.solve(5000);
        c.next(5000);
        c.count(2, 100);
        c.check();
        c.export();
        edge.is("status() behind what is answered well", 0, c.status());
        edge.leavesInScenes("status()", CAST, ClauseCourt::status);
    }

    private static void statusTells() {
        edge.of("55", "The latest that was refused or found: as it was answered elsewhere (also by the FAULT of a text)");
        Map<Integer, ToLongFunction<ClauseCourt>> calls = new LinkedHashMap<>();
        calls.put(BAD, c -> c.row(40, 0));
        calls.put(STATE, c -> c.goOn(1));
        calls.put(FULL, c -> c.names(300));
        calls.put(NOTHING, c -> c.clause(38));
        calls.put(BEYOND, c -> c.put(0, 3, 0));
        calls.put(CAST, c -> c.as(3, 0));
        calls.put(SIZE, c -> c.row(0, -1));
        calls.put(-2000, c -> c.wipe() >= 0 ? c.told() : 0);
        calls.put(-2002, c -> c.feed('?', 1) > 0 ? c.told() : 0);
        calls.forEach((code, call) -> {
            ClauseCourt c = Scenes.yes();
            edge.is("the call", code, call.applyAsLong(c));
            edge.is("status()", code, c.status());
            c.names(0);
            c.solve(5000);
            edge.is("status() behind what is answered well", code, c.status());
            edge.is("status() asked again", code, c.status());
        });
        ClauseCourt c = Scenes.yes();
        edge.is("get()", 10000000000L * BEYOND, c.get(0, 3));
        edge.is("status() behind get()", BEYOND, c.status());
    }

    private static void statusIsTheLatest() {
        edge.of("55", "The latest");
        ClauseCourt c = Scenes.yes();
        c.row(40, 0);
        c.goOn(1);
        edge.is("status()", STATE, c.status());
        c.row(0, -1);
        edge.is("status()", SIZE, c.status());
        c.about(10);
        edge.is("status()", BAD, c.status());
        c.told();
        c.told();
        edge.is("status()", -2000, c.status());
        c.weighs(0);
        edge.is("status()", BAD, c.status());
    }

    private static void statusIsNotTold() {
        edge.of("55", "other than SPENT, NONE and FULL of SOLVING");
        Map<String, ToLongFunction<ClauseCourt>> calls = new LinkedHashMap<>();
        calls.put("item", c -> c.item(0, 99));
        calls.put("rows", c -> c.rows(0, 99));
        calls.put("line", c -> c.line(900, 0));
        calls.put("out", c -> c.out(999));
        calls.put("coreAt", c -> c.coreAt(0, 99));
        calls.put("strike", c -> c.strike(99));
        calls.put("proof", c -> c.proof(99, 0));
        calls.put("forcedAt", c -> c.forcedAt(99));
        calls.put("why", c -> c.why(7));
        calls.put("trace", c -> c.trace(99));
        calls.forEach((what, call) -> {
            ClauseCourt c = Scenes.no();
            edge.is(what, NONE, call.applyAsLong(c));
            edge.is("status() behind " + what, CAST, c.status());
        });
        ClauseCourt c = Scenes.yes();
        c.names(1);
        edge.is("truth", NONE, c.truth(15));
        edge.is("solve", SPENT, c.solve(1));
        edge.is("goOn", SPENT, Scenes.spent().goOn(1));
        edge.is("count", SPENT, c.count(1, 1));
        edge.is("next", SPENT, c.next(1));
        edge.is("status()", CAST, c.status());
        ClauseCourt d = Scenes.no();
        edge.is("shrink", SPENT, d.shrink(1));
        edge.is("least", SPENT, d.least(1));
        edge.is("status()", CAST, d.status());
        edge.is("solved(0) of a new one", NONE, new ClauseCourt().solved(0));
        ClauseCourt full = Scenes.full();
        edge.is("FULL of SOLVING", FULL, full.solved(0));
        edge.is("status()", CAST, full.status());
    }

    // ---- about()

    private static void abouts() {
        edge.of("56", "0 NAMES, 1 RULES, 2 ROWS, 3 ITEMS, 4 ASSUMED, 5 BARRED, 6 PROOF, 7 COUNTED, 8 TAPE, 9 OUT");
        int[] told = {14, 7, 27, 59, 1, 2, 2, 3, 2, 17};
        for (int what = 0; what <= 9; what++) {
            int one = what;
            edge.leaves("about(" + what + ")", told[what], Scenes::spent, c -> c.about(one));
            edge.leaves("about(" + what + ") of a new one", 0, ClauseCourt::new, c -> c.about(one));
        }
        ClauseCourt c = Scenes.yes();
        c.names(286);
        edge.is("300 NAMES", 300, c.about(0));
        c.unbar();
        edge.is("none BARRED", 0, c.about(5));
        c.free();
        edge.is("none ASSUMED", 0, c.about(4));
        c.strike(0);
        c.strike(0);
        edge.is("no PROOF", 0, c.about(6));
        c.counted(1, false);
        edge.is("two COUNTED", 2, c.about(7));
        c.wipe();
        edge.is("no TAPE", 0, c.about(8));
        c.print(5);
        edge.is("OUT", "some(7,8)".length(), c.about(9));
        c.clause(1);
        edge.is("a ROW without ITEMS", 28, c.about(2));
        edge.is("ITEMS", 59, c.about(3));
        edge.is("RULES", 8, c.about(1));
    }

    private static void aboutRefused() {
        edge.of("56", "BAD");
        for (int what : new int[] {-1, 10, MIN, MAX}) {
            edge.refusedAnywhere("about(" + what + ")", BAD, c -> c.about(what));
        }
    }
}
