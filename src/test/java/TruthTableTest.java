import java.util.ArrayList;
import java.util.List;
import java.util.Random;
import java.util.TreeSet;

/** Small CASEs, drawn with fixed seeds, whose every TRUTH is tried: what is said must be so, however it was found. */
public final class TruthTableTest {
    private static final Due due = new Due("TruthTableTest");

    private final Random random;
    private final ClauseCourt court = new ClauseCourt();
    private final List<int[]> rows = new ArrayList<>();
    private final List<Integer> assumed = new ArrayList<>();
    private int names;
    private int allNames;

    private TruthTableTest(long seed) {
        random = new Random(seed);
    }

    public static void main(String[] args) {
        for (int seed = 0; seed < 400; seed++) {
            TruthTableTest test = new TruthTableTest(seed);
            test.lay();
            test.solve();
            test.count();
            test.force();
        }
        due.end();
    }

    private int anItem() {
        int n = 1 + random.nextInt(names);
        return random.nextBoolean() ? n : -n;
    }

    private void lay() {
        names = 2 + random.nextInt(4);
        court.names(names);
        int rules = random.nextInt(9);
        for (int i = 0; i < rules && court.about(0) < 11; i++) {
            int size = random.nextInt(4);
            court.row(0, size);
            for (int k = 0; k < size; k++) {
                court.put(0, k, anItem());
            }
            int kind = random.nextInt(6);
            if (kind == 0) {
                court.group(0, random.nextInt(3));
            } else if (kind == 1) {
                court.parity(0, random.nextBoolean());
            } else if (kind == 2) {
                court.atMost(0, random.nextInt(3));
            } else if (size > 0) {
                court.clause(0);
            }
        }
        allNames = court.about(0);
        int laid = court.about(2);
        for (int k = 0; k < laid; k++) {
            int[] row = new int[court.line(k, -1)];
            for (int i = 0; i < row.length; i++) {
                row[i] = court.line(k, i);
            }
            rows.add(row);
        }
        for (int i = random.nextInt(4); i > 0; i--) {
            int v = anItem();
            if (court.assume(v) > 0) {
                assumed.add(v);
            }
        }
    }

    private static boolean isTrue(int truths, int v) {
        return (truths >> Math.abs(v) - 1 & 1) == (v > 0 ? 1 : 0);
    }

    private static boolean keeps(int truths, int[] row) {
        for (int v : row) {
            if (isTrue(truths, v)) {
                return true;
            }
        }
        return false;
    }

    private boolean keepsAll(int truths, List<Integer> rowNumbers, List<Integer> items) {
        for (int k : rowNumbers) {
            if (!keeps(truths, rows.get(k))) {
                return false;
            }
        }
        for (int v : items) {
            if (!isTrue(truths, v)) {
                return false;
            }
        }
        return true;
    }

    private boolean canBe(List<Integer> rowNumbers, List<Integer> items) {
        for (int truths = 0; truths < 1 << allNames; truths++) {
            if (keepsAll(truths, rowNumbers, items)) {
                return true;
            }
        }
        return false;
    }

    private List<Integer> allRows() {
        List<Integer> all = new ArrayList<>();
        for (int k = 0; k < rows.size(); k++) {
            all.add(k);
        }
        return all;
    }

    private List<Integer> core(int what) {
        List<Integer> all = new ArrayList<>();
        for (int k = 0; k < court.core(what); k++) {
            all.add(court.coreAt(what, k));
        }
        return all;
    }

    private void solve() {
        boolean can = canBe(allRows(), assumed);
        due.is("solve", can ? 1 : 0, court.solve(5000));
        if (can) {
            int truths = 0;
            for (int n = 1; n <= allNames; n++) {
                truths |= court.truth(n) << n - 1;
            }
            due.is("the TRUTH keeps all", 1, keepsAll(truths, allRows(), assumed) ? 1 : 0);
            for (int rule = 0; rule < court.about(1); rule++) {
                due.is("HOLDS", 1, court.ask(rule, 0));
            }
            return;
        }
        due.is("the CORE can't be", 0, canBe(core(0), core(1)) ? 1 : 0);
        court.take();
        due.is("the RECORD is a PROOF", 1, court.check());
        if (court.core(0) <= 10) {
            int fewest = fewestRows(core(0), core(1));
            int said = court.least(5000);
            if (said != ClauseCourt.SPENT) {
                due.is("least", fewest, said);
                due.is("it can't be", 0, canBe(core(0), core(1)) ? 1 : 0);
            }
        }
        int left = court.shrink(5000);
        if (left != ClauseCourt.SPENT) {
            due.is("shrink", core(0).size() + core(1).size(), left);
            neededAll();
        }
    }

    private int fewestRows(List<Integer> among, List<Integer> items) {
        int fewest = among.size();
        for (int set = 0; set < 1 << among.size(); set++) {
            List<Integer> chosen = new ArrayList<>();
            for (int k = 0; k < among.size(); k++) {
                if ((set >> k & 1) == 1) {
                    chosen.add(among.get(k));
                }
            }
            if (chosen.size() < fewest && !canBe(chosen, items)) {
                fewest = chosen.size();
            }
        }
        return fewest;
    }

    private void neededAll() {
        List<Integer> coreRows = core(0);
        List<Integer> coreItems = core(1);
        due.is("what is left can't be", 0, canBe(coreRows, coreItems) ? 1 : 0);
        for (int k = 0; k < coreRows.size(); k++) {
            List<Integer> others = new ArrayList<>(coreRows);
            others.remove(k);
            due.is("each ROW is needed", 1, canBe(others, coreItems) ? 1 : 0);
        }
        for (int k = 0; k < coreItems.size(); k++) {
            List<Integer> others = new ArrayList<>(coreItems);
            others.remove(k);
            due.is("each ITEM is needed", 1, canBe(coreRows, others) ? 1 : 0);
        }
    }

    private void count() {
        int mask = 0;
        for (int n = 1; n <= names; n++) {
            if (random.nextInt(3) > 0) {
                court.counted(n, true);
                mask |= 1 << n - 1;
            }
        }
        TreeSet<Integer> found = new TreeSet<>();
        for (int truths = 0; truths < 1 << allNames; truths++) {
            if (keepsAll(truths, allRows(), new ArrayList<>())) {
                found.add(truths & mask);
            }
        }
        due.is("count", Math.min(found.size(), 64), court.count(64, 5000));
        for (int i = 0; i < found.size(); i++) {
            due.is("next", 1, court.next(5000));
        }
        due.is("no more", 0, court.next(5000));
    }

    private void force() {
        int forced = court.forced();
        if (forced == ClauseCourt.NONE) {
            due.is("a QUARREL", 0, canBe(allRows(), new ArrayList<>()) ? 1 : 0);
            return;
        }
        for (int k = 0; k < forced; k++) {
            List<Integer> contrary = new ArrayList<>(List.of(-court.forcedAt(k)));
            due.is("what is forced must be", 0, canBe(allRows(), contrary) ? 1 : 0);
        }
    }
}
