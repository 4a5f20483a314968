import java.util.ArrayList;
import java.util.Arrays;
import java.util.Collections;
import java.util.LinkedHashSet;
import java.util.List;
import java.util.Set;
import java.util.TreeSet;

/**
 * The document once more, written as plainly as it can be: every ROW is looked at anew for every STEP, all sets are
 * sets. It is slow and shares no thought with ClauseCourt, so that what both answer is worth comparing.
 */
final class PlainCourt {
    static final int BAD = -1001;
    static final int STATE = -1002;
    static final int FULL = -1003;
    static final int SPENT = -1004;
    static final int NONE = -1005;
    static final int NOTHING = -1011;
    static final int BEYOND = -1012;
    static final int CAST = -1013;
    static final int SIZE = -1014;

    /** A ROW with its number; USE and SOURCES where it is LEARNT. */
    static final class Line {
        final int number;
        final int[] items;
        int use;
        boolean gone;
        Set<Integer> sources = new TreeSet<>();

        Line(int number, int[] items) {
            this.number = number;
            this.items = items;
        }
    }

    /** A RULE of any KIND. */
    static final class Law {
        int kind;
        int[] items;
        int k;
        boolean odd;
        String text;
        int from;
        int laid;
    }

    /** A SOLVING, from its beginning on. */
    static final class Run {
        final List<Line> base = new ArrayList<>();
        final List<Line> learnt = new ArrayList<>();
        final List<Line> record = new ArrayList<>();
        final List<Integer> trail = new ArrayList<>();
        final int[] truth = new int[301];
        final int[] level = new int[301];
        final Line[] reason = new Line[301];
        final int[] latest = new int[301];
        final long[] weight = new long[301];
        final List<Set<Integer>> nameSources = new ArrayList<>();
        List<Integer> assumed = new ArrayList<>();
        long rise = 64;
        int names;
        int now;
        int u;
        int m;
        int quarrels;
        List<Integer> pace = new ArrayList<>(List.of(1));
        int paceAt;
        int said = NONE;
        int[] figures = new int[10];
        int[] quarrel;
        List<Integer> coreItems = new ArrayList<>();
        List<Integer> coreRows = new ArrayList<>();

        int of(int v) {
            return v > 0 ? truth[v] : -truth[-v];
        }

        List<Line> order() {
            List<Line> all = new ArrayList<>(base);
            for (Line line : learnt) {
                if (!line.gone) {
                    all.add(line);
                }
            }
            return all;
        }

        Line firstQuarrel() {
            for (Line line : order()) {
                boolean all = true;
                for (int v : line.items) {
                    all &= of(v) < 0;
                }
                if (all) {
                    return line;
                }
            }
            return null;
        }

        Line firstForcing() {
            for (Line line : order()) {
                int open = 0;
                int wrong = 0;
                for (int v : line.items) {
                    open += of(v) == 0 ? 1 : 0;
                    wrong += of(v) < 0 ? 1 : 0;
                }
                if (open == 1 && wrong == line.items.length - 1) {
                    return line;
                }
            }
            return null;
        }

        void become(int v, Line why) {
            int n = Math.abs(v);
            truth[n] = v > 0 ? 1 : -1;
            level[n] = now;
            reason[n] = why;
            trail.add(v);
        }

        int openOf(Line line) {
            for (int v : line.items) {
                if (of(v) == 0) {
                    return v;
                }
            }
            throw new IllegalStateException();
        }

        Set<Integer> sourcesOf(Line line) {
            if (line.number < 1000) {
                return new TreeSet<>(Set.of(line.number));
            }
            return line.number < 2000 ? new TreeSet<>() : line.sources;
        }

        Set<Integer> sourcesOfName(int n) {
            Set<Integer> found = new TreeSet<>(sourcesOf(reason[n]));
            for (int v : reason[n].items) {
                if (Math.abs(v) != n) {
                    found.addAll(nameSources.get(Math.abs(v)));
                }
            }
            return found;
        }

        int go(int steps) {
            for (int i = nameSources.size(); i <= 300; i++) {
                nameSources.add(new TreeSet<>());
            }
            int left = steps;
            while (true) {
                Line line = firstQuarrel();
                if (line != null && now == 0) {
                    return said = noAtOnce(line);
                }
                if (line != null) {
                    if (left == 0) {
                        return said = SPENT;
                    }
                    if (!learn(line)) {
                        return said = FULL;
                    }
                    left--;
                    figures[1]++;
                    continue;
                }
                line = firstForcing();
                if (line != null) {
                    if (left == 0) {
                        return said = SPENT;
                    }
                    int v = openOf(line);
                    become(v, line);
                    if (now == 0) {
                        nameSources.set(Math.abs(v), sourcesOfName(Math.abs(v)));
                    }
                    left--;
                    figures[1]++;
                    figures[2]++;
                    continue;
                }
                Integer choice = null;
                for (int a : assumed) {
                    if (of(a) <= 0) {
                        choice = a;
                        break;
                    }
                }
                if (choice != null && of(choice) < 0) {
                    return said = noByAssumed(choice);
                }
                if (choice == null) {
                    int best = 0;
                    for (int n = 1; n <= names; n++) {
                        if (truth[n] == 0 && (best == 0 || weight[n] > weight[best])) {
                            best = n;
                        }
                    }
                    if (best == 0) {
                        return said = 1;
                    }
                    choice = latest[best] == 1 ? best : -best;
                }
                if (left == 0) {
                    return said = SPENT;
                }
                now++;
                figures[9] = Math.max(figures[9], now);
                become(choice, null);
                left--;
                figures[1]++;
                figures[3]++;
            }
        }

        boolean room(int size) {
            int items = size;
            for (Line line : record) {
                items += line.items.length;
            }
            return record.size() + 1 <= 800 && items <= 8000;
        }

        void undoTo(int lower) {
            while (!trail.isEmpty() && level[Math.abs(trail.get(trail.size() - 1))] > lower) {
                int v = trail.remove(trail.size() - 1);
                latest[Math.abs(v)] = v > 0 ? 1 : 0;
                truth[Math.abs(v)] = 0;
                reason[Math.abs(v)] = null;
            }
            now = lower;
        }

        boolean learn(Line line) {
            int top = now;
            Set<Integer> set = new LinkedHashSet<>();
            Set<Integer> ever = new TreeSet<>();
            List<Line> taken = new ArrayList<>(List.of(line));
            for (int v : line.items) {
                if (level[Math.abs(v)] > 0) {
                    set.add(v);
                    ever.add(Math.abs(v));
                }
            }
            int last = 0;
            for (int i = trail.size() - 1; i >= 0; i--) {
                int t = trail.get(i);
                if (level[Math.abs(t)] != top || !set.contains(-t)) {
                    continue;
                }
                int of = 0;
                for (int v : set) {
                    of += level[Math.abs(v)] == top ? 1 : 0;
                }
                if (of == 1) {
                    last = t;
                    break;
                }
                set.remove(-t);
                taken.add(reason[Math.abs(t)]);
                for (int v : reason[Math.abs(t)].items) {
                    if (v != t && level[Math.abs(v)] > 0) {
                        set.add(v);
                        ever.add(Math.abs(v));
                    }
                }
            }
            List<Integer> fresh = new ArrayList<>(List.of(-last));
            for (int i = trail.size() - 1; i >= 0; i--) {
                if (set.contains(-trail.get(i)) && trail.get(i) != last) {
                    fresh.add(-trail.get(i));
                }
            }
            if (!room(fresh.size())) {
                return false;
            }
            Line made = new Line(2000 + learnt.size(), toArray(fresh));
            for (Line one : taken) {
                made.sources.addAll(sourcesOf(one));
                for (int v : one.items) {
                    if (level[Math.abs(v)] == 0) {
                        made.sources.addAll(nameSources.get(Math.abs(v)));
                    }
                }
                one.use++;
            }
            raise(ever);
            int lower = 0;
            for (int i = 1; i < fresh.size(); i++) {
                lower = Math.max(lower, level[Math.abs(fresh.get(i))]);
            }
            undoTo(lower);
            quarrels++;
            if (u > 0 && quarrels >= u * pace()) {
                undoTo(0);
                quarrels = 0;
                paceAt++;
                figures[5]++;
            }
            forget();
            learnt.add(made);
            record.add(made);
            figures[4]++;
            figures[7]++;
            quarrel = new int[] {line.number, top, now, ever.size(), fresh.size()};
            return true;
        }

        int pace() {
            while (pace.size() <= paceAt) {
                int last = pace.get(pace.size() - 1);
                pace.addAll(new ArrayList<>(pace));
                pace.add(2 * last);
            }
            return pace.get(paceAt);
        }

        void raise(Set<Integer> ever) {
            boolean above = false;
            for (int n : ever) {
                weight[n] += rise;
            }
            rise = rise + rise / 8;
            for (int n = 1; n <= names; n++) {
                above |= weight[n] > 1000000000000L;
            }
            if (above) {
                for (int n = 1; n <= names; n++) {
                    weight[n] /= 1048576;
                }
                rise = Math.max(1, rise / 1048576);
            }
        }

        void forget() {
            List<Line> there = new ArrayList<>();
            for (Line line : learnt) {
                if (!line.gone) {
                    there.add(line);
                }
            }
            if (m == 0 || there.size() <= m) {
                return;
            }
            List<Line> may = new ArrayList<>();
            for (Line line : there) {
                if (line.items.length > 2 && !Arrays.asList(reason).contains(line)) {
                    may.add(line);
                }
            }
            may.sort((a, b) -> a.use != b.use ? Integer.compare(a.use, b.use) : Integer.compare(a.number, b.number));
            for (Line line : may.subList(0, may.size() / 2)) {
                line.gone = true;
                figures[6]++;
                figures[7]--;
            }
            for (Line line : there) {
                line.use /= 2;
            }
        }

        int noAtOnce(Line line) {
            Line end = new Line(-1, new int[0]);
            end.sources.addAll(sourcesOf(line));
            for (int v : line.items) {
                end.sources.addAll(nameSources.get(Math.abs(v)));
            }
            if (!room(0)) {
                return FULL;
            }
            quarrel = new int[] {line.number, 0, 0, 0, 0};
            record.add(end);
            coreRows = new ArrayList<>(end.sources);
            return 0;
        }

        int noByAssumed(int a) {
            Set<Integer> core = new TreeSet<>(Set.of(a));
            Set<Integer> marked = new TreeSet<>(Set.of(Math.abs(a)));
            Set<Integer> sources = new TreeSet<>();
            for (int i = trail.size() - 1; i >= 0; i--) {
                int n = Math.abs(trail.get(i));
                if (!marked.contains(n) || level[n] == 0) {
                    continue;
                }
                if (reason[n] == null) {
                    core.add(trail.get(i));
                    continue;
                }
                sources.addAll(sourcesOf(reason[n]));
                for (int v : reason[n].items) {
                    marked.add(Math.abs(v));
                }
            }
            for (int n : marked) {
                if (truth[n] != 0 && level[n] == 0) {
                    sources.addAll(nameSources.get(n));
                }
            }
            List<Integer> items = new ArrayList<>();
            List<Integer> contraries = new ArrayList<>();
            for (int v : assumed) {
                if (core.contains(v)) {
                    items.add(v);
                    contraries.add(-v);
                }
            }
            if (!room(items.size())) {
                return FULL;
            }
            Line end = new Line(-1, toArray(contraries));
            record.add(end);
            coreRows = new ArrayList<>(sources);
            coreItems = items;
            return 0;
        }
    }

    private final int[][] paper = new int[40][];
    private final List<Integer> tape = new ArrayList<>();
    private final List<Law> laws = new ArrayList<>();
    private List<int[]> rows = new ArrayList<>();
    private int names;
    private final List<Integer> assumed = new ArrayList<>();
    private final int[] weights = new int[301];
    private final Set<Integer> counted = new TreeSet<>();
    private final List<int[]> barred = new ArrayList<>();
    private final List<int[]> proof = new ArrayList<>();
    private final List<Integer> trace = new ArrayList<>();
    private byte[] out = new byte[0];
    private int u;
    private int m;
    private int status;
    private Run run = new Run();
    private boolean byNext;
    private boolean canGoOn;
    private int lawsThen;
    private int refusedAt = NONE;

    static int[] toArray(List<Integer> list) {
        int[] array = new int[list.size()];
        for (int i = 0; i < array.length; i++) {
            array[i] = list.get(i);
        }
        return array;
    }

    private int no(int code) {
        status = code;
        return code;
    }

    int names(int n) {
        if (n < 0 || n > 300) {
            return no(BAD);
        }
        if (names + n > 300) {
            return no(FULL);
        }
        canGoOn = false;
        return names += n;
    }

    private boolean paperRow(int r) {
        return 0 <= r && r <= 39;
    }

    int row(int r, int n) {
        if (!paperRow(r) || n > 12) {
            return no(BAD);
        }
        if (n < 0) {
            return no(SIZE);
        }
        paper[r] = new int[n];
        return n;
    }

    int drop(int r) {
        if (!paperRow(r)) {
            return no(BAD);
        }
        paper[r] = null;
        return 1;
    }

    int put(int r, int i, int v) {
        if (!paperRow(r)) {
            return no(BAD);
        }
        if (paper[r] == null) {
            return no(NOTHING);
        }
        if (i < 0 || i >= paper[r].length) {
            return no(BEYOND);
        }
        paper[r][i] = v;
        return 1;
    }

    long get(int r, int i) {
        if (!paperRow(r)) {
            return 10000000000L * no(BAD);
        }
        if (paper[r] == null) {
            return 10000000000L * no(NOTHING);
        }
        if (i == -1) {
            return paper[r].length;
        }
        if (i < 0 || i >= paper[r].length) {
            return 10000000000L * no(BEYOND);
        }
        return paper[r][i];
    }

    int copy(int from, int i, int to, int j, int n) {
        if (!paperRow(from) || !paperRow(to)) {
            return no(BAD);
        }
        if (paper[from] == null || paper[to] == null) {
            return no(NOTHING);
        }
        if (i < 0 || j < 0 || n < 0 || (long) i + n > paper[from].length || (long) j + n > paper[to].length) {
            return no(BEYOND);
        }
        int[] were = paper[from].clone();
        for (int h = 0; h < n; h++) {
            paper[to][j + h] = were[i + h];
        }
        return n;
    }

    int cut(int r, int n) {
        if (!paperRow(r) || n > 12) {
            return no(BAD);
        }
        if (n < 0) {
            return no(SIZE);
        }
        if (paper[r] == null) {
            return no(NOTHING);
        }
        if (n > paper[r].length) {
            return no(BEYOND);
        }
        paper[r] = Arrays.copyOf(paper[r], n);
        return n;
    }

    int feed(long w, int n) {
        if (n < 1 || n > 8) {
            return no(BAD);
        }
        if (tape.size() + n > 60) {
            return no(FULL);
        }
        for (int i = n - 1; i >= 0; i--) {
            tape.add((int) (w >>> 8 * i & 255));
        }
        return tape.size();
    }

    int wipe() {
        int had = tape.size();
        tape.clear();
        return had;
    }

    private int look(int v) {
        if (v == 0 || v > 300 || v < -300) {
            return BEYOND;
        }
        return Math.abs(v) > names ? NOTHING : 0;
    }

    private int lookAll(int[] items) {
        for (int v : items) {
            if (look(v) != 0) {
                return look(v);
            }
        }
        return 0;
    }

    private int lookRow(int r) {
        if (!paperRow(r)) {
            return BAD;
        }
        return paper[r] == null ? NOTHING : lookAll(paper[r]);
    }

    private int newest;
    private List<int[]> laying = new ArrayList<>();

    private void lay(List<Integer> items) {
        laying.add(toArray(new ArrayList<>(new LinkedHashSet<>(items))));
    }

    private void lay(Integer... items) {
        lay(Arrays.asList(items));
    }

    private int enter(Law law) {
        newest = names;
        laying = new ArrayList<>();
        if (law.kind == 0) {
            List<Integer> all = new ArrayList<>();
            for (int v : law.items) {
                all.add(v);
            }
            lay(all);
        } else if (law.kind == 1 || law.kind == 2) {
            laySums(law);
        } else if (law.kind == 3) {
            layParity(law);
        } else {
            TextReader reader = new TextReader(law.text);
            lay(reader.layPart());
        }
        int items = 0;
        for (int[] row : rows) {
            items += row.length;
        }
        for (int[] row : laying) {
            items += row.length;
        }
        if (laws.size() + 1 > 60 || newest > 300 || rows.size() + laying.size() > 500 || items > 2500) {
            return no(FULL);
        }
        law.from = rows.size();
        law.laid = laying.size();
        rows = new ArrayList<>(rows);
        rows.addAll(laying);
        names = newest;
        laws.add(law);
        canGoOn = false;
        return laws.size() - 1;
    }

    private void laySums(Law law) {
        int n = law.items.length;
        int k = law.k;
        int[][] sum = new int[n + 1][k + 2];
        for (int i = 1; i <= n; i++) {
            int x = law.items[i - 1];
            for (int j = 1; j <= Math.min(i, k + 1); j++) {
                if (i == 1) {
                    sum[1][1] = x;
                    continue;
                }
                int s = ++newest;
                sum[i][j] = s;
                int p = sum[i - 1][j];
                int q = sum[i - 1][j - 1];
                if (j == i) {
                    lay(-x, -q, s);
                    lay(x, -s);
                    lay(q, -s);
                } else if (j == 1) {
                    lay(-p, s);
                    lay(-x, s);
                    lay(p, x, -s);
                } else {
                    lay(-p, s);
                    lay(-x, -q, s);
                    lay(p, x, -s);
                    lay(p, q, -s);
                }
            }
        }
        if (n > k) {
            lay(-sum[n][k + 1]);
        }
        if (law.kind == 2 && k > n) {
            lay(new ArrayList<>());
        } else if (law.kind == 2 && k > 0) {
            lay(sum[n][k]);
        }
    }

    private void layParity(Law law) {
        int n = law.items.length;
        if (n == 0) {
            if (law.odd) {
                lay(new ArrayList<>());
            }
            return;
        }
        int p = law.items[0];
        for (int i = 2; i <= n; i++) {
            int s = ++newest;
            int x = law.items[i - 1];
            lay(-p, -x, -s);
            lay(p, x, -s);
            lay(p, -x, s);
            lay(-p, x, s);
            p = s;
        }
        lay(law.odd ? p : -p);
    }

    /** Reads a TEXT by recursion; where it can't go on, it remembers the place. */
    private final class TextReader {
        final String text;
        int at;
        int fault = -1;
        final List<Integer> numbers = new ArrayList<>();

        TextReader(String text) {
            this.text = text;
        }

        char here() {
            return at < text.length() ? text.charAt(at) : (char) 1000;
        }

        boolean fail() {
            if (fault < 0) {
                fault = at;
            }
            return false;
        }

        boolean eat(char c) {
            if (here() != c) {
                return fail();
            }
            at++;
            return true;
        }

        boolean digit() {
            return here() >= '0' && here() <= '9';
        }

        boolean whole() {
            return part(0) && (at == text.length() || fail());
        }

        boolean part(int open) {
            char c = here();
            if (c == '!') {
                at++;
                return part(open);
            }
            if (c == 'x') {
                at++;
                if (!digit()) {
                    return fail();
                }
                int number = 0;
                for (int i = 0; digit(); i++) {
                    if (i == 3) {
                        return fail();
                    }
                    number = 10 * number + here() - '0';
                    at++;
                }
                numbers.add(number);
                return true;
            }
            if (c != '&' && c != '|' && c != 'j' && c != '>') {
                return fail();
            }
            at++;
            if (open == 8) {
                return fail();
            }
            if (!eat('(')) {
                return false;
            }
            return parts(c, open + 1);
        }

        boolean parts(char sign, int open) {
            for (int count = 1;; count++) {
                if (count == 9) {
                    return fail();
                }
                if (!part(open)) {
                    return false;
                }
                if (here() == ')' && (sign != '>' || count == 2)) {
                    at++;
                    return true;
                }
                if (sign == '>' && count == 2 || !eat(',')) {
                    return fail();
                }
            }
        }

        int number() {
            int number = 0;
            while (digit()) {
                number = 10 * number + here() - '0';
                at++;
            }
            return number;
        }

        List<Integer> items() {
            List<Integer> found = new ArrayList<>();
            for (at++; text.charAt(at - 1) != ')'; at++) {
                found.add(layPart());
            }
            return found;
        }

        int layPart() {
            char c = text.charAt(at++);
            if (c == '!') {
                return -layPart();
            }
            if (c == 'x') {
                return number();
            }
            List<Integer> p = items();
            int z = ++newest;
            layRows(c, p, z);
            return z;
        }

        List<Integer> with(List<Integer> items, int last) {
            List<Integer> all = new ArrayList<>(items);
            all.add(last);
            return all;
        }

        void layRows(char c, List<Integer> p, int z) {
            if (c == '&') {
                List<Integer> all = new ArrayList<>(List.of(z));
                for (int v : p) {
                    lay(v, -z);
                    all.add(-v);
                }
                lay(all);
            } else if (c == '|') {
                for (int v : p) {
                    lay(-v, z);
                }
                lay(with(p, -z));
            } else if (c == '>') {
                lay(p.get(0), z);
                lay(-p.get(1), z);
                lay(-p.get(0), p.get(1), -z);
            } else {
                lay(with(p, -z));
                for (int i = 0; i < p.size(); i++) {
                    for (int h = i + 1; h < p.size(); h++) {
                        lay(-p.get(i), -p.get(h), -z);
                    }
                }
                for (int i = 0; i < p.size(); i++) {
                    List<Integer> row = new ArrayList<>(List.of(z, -p.get(i)));
                    for (int h = 0; h < p.size(); h++) {
                        if (h != i) {
                            row.add(p.get(h));
                        }
                    }
                    lay(row);
                }
            }
        }

        boolean so() {
            char c = text.charAt(at++);
            if (c == '!') {
                return !so();
            }
            if (c == 'x') {
                return run.truth[number()] == 1;
            }
            List<Boolean> each = new ArrayList<>();
            for (at++; text.charAt(at - 1) != ')'; at++) {
                each.add(so());
            }
            int yes = Collections.frequency(each, true);
            if (c == '>') {
                return !each.get(0) || each.get(1);
            }
            return c == '&' ? yes == each.size() : c == '|' ? yes > 0 : yes == 1;
        }
    }

    private int enter(int r, int kind, int k, boolean odd) {
        if (k < 0 || k > 12) {
            return no(BAD);
        }
        if (lookRow(r) != 0) {
            return no(lookRow(r));
        }
        Law law = new Law();
        law.kind = kind;
        law.items = paper[r].clone();
        law.k = k;
        law.odd = odd;
        return enter(law);
    }

    int clause(int r) {
        return enter(r, 0, 0, false);
    }

    int atMost(int r, int k) {
        return enter(r, 1, k, false);
    }

    int group(int r, int k) {
        return enter(r, 2, k, false);
    }

    int parity(int r, boolean odd) {
        return enter(r, 3, 0, odd);
    }

    int told() {
        StringBuilder text = new StringBuilder();
        for (int b : tape) {
            text.append((char) b);
        }
        tape.clear();
        TextReader reader = new TextReader(text.toString());
        if (!reader.whole()) {
            return no(-2000 - reader.fault);
        }
        Law law = new Law();
        law.kind = 4;
        law.text = text.toString();
        law.items = toArray(reader.numbers);
        int fault = lookAll(law.items);
        return fault != 0 ? no(fault) : enter(law);
    }

    private boolean law(int rule) {
        return rule >= 0 && rule < laws.size();
    }

    int kind(int rule) {
        return law(rule) ? laws.get(rule).kind : no(BAD);
    }

    int as(int rule, int kind) {
        if (!law(rule) || kind < 0 || kind > 4) {
            return no(BAD);
        }
        String[] are = {"0", "01", "012", "3", "04"};
        return are[laws.get(rule).kind].indexOf('0' + kind) >= 0 ? 1 : no(CAST);
    }

    int item(int rule, int i) {
        if (!law(rule)) {
            return no(BAD);
        }
        return tell(laws.get(rule).items, i);
    }

    private static int tell(int[] items, int i) {
        if (i == -1) {
            return items.length;
        }
        return i >= 0 && i < items.length ? items[i] : NONE;
    }

    int rows(int rule, int k) {
        if (!law(rule)) {
            return no(BAD);
        }
        return k >= 0 && k < laws.get(rule).laid ? laws.get(rule).from + k : NONE;
    }

    int line(int row, int i) {
        if (row >= 0 && row < rows.size()) {
            return tell(rows.get(row), i);
        }
        if (row >= 1000 && row < 1000 + barred.size()) {
            return tell(barred.get(row - 1000), i);
        }
        if (row >= 2000 && row - 2000 < run.learnt.size()) {
            return tell(run.learnt.get(row - 2000).items, i);
        }
        return NONE;
    }

    private int trueOnes(Law law) {
        int count = 0;
        for (int v : law.items) {
            count += run.of(v) == 1 ? 1 : 0;
        }
        return count;
    }

    private boolean holds(Law law) {
        trace.add(10 * law.kind);
        switch (law.kind) {
            case 0:
                return trueOnes(law) >= 1;
            case 1:
                return trueOnes(law) <= law.k;
            case 2:
                trace.add(10);
                return trueOnes(law) == law.k;
            case 3:
                return trueOnes(law) % 2 == (law.odd ? 1 : 0);
            default:
                return new TextReader(law.text).so();
        }
    }

    private int least(Law law) {
        int[][] bodies = {{1, 51}, {11, 1, 51}, {21}, {31, 51}, {1, 51}};
        for (int body : bodies[law.kind]) {
            trace.add(body);
        }
        int[] answers = {1, 0, law.k, law.odd ? 1 : 0, 1};
        return answers[law.kind];
    }

    private int most(Law law) {
        int[][] bodies = {{52}, {12, 52}, {12, 52}, {32, 52}, {42}};
        for (int body : bodies[law.kind]) {
            trace.add(body);
        }
        int n = law.items.length;
        int[] answers = {n, Math.min(n, law.k), Math.min(n, law.k), n % 2 == (law.odd ? 1 : 0) ? n : n - 1, 1};
        return answers[law.kind];
    }

    int ask(int rule, int act) {
        if (!law(rule) || act < 0 || act > 3) {
            return no(BAD);
        }
        Law law = laws.get(rule);
        if (act == 0) {
            return run.said != 1 || rule >= lawsThen ? no(STATE) : holds(law) ? 1 : 0;
        }
        if (act == 3) {
            trace.add(53);
            return law.laid;
        }
        return act == 1 ? least(law) : most(law);
    }

    int print(int rule) {
        if (!law(rule)) {
            return no(BAD);
        }
        Law law = laws.get(rule);
        int[][] bodies = {{4, 64}, {14, 64}, {24, 14, 64}, {34, 64}, {44}};
        for (int body : bodies[law.kind]) {
            trace.add(body);
        }
        String[] heads = {"some", "most " + law.k, "just most " + law.k, law.odd ? "odd" : "even", law.text};
        String text = heads[law.kind];
        if (law.kind != 4) {
            text += Arrays.toString(law.items).replace('[', '(').replace(']', ')').replace(" ", "");
        }
        out = text.getBytes(java.nio.charset.StandardCharsets.ISO_8859_1);
        return out.length;
    }

    int export() {
        StringBuilder text = new StringBuilder();
        for (int[] row : rows) {
            for (int v : row) {
                text.append(v).append(' ');
            }
            text.append("0\n");
        }
        out = text.toString().getBytes(java.nio.charset.StandardCharsets.ISO_8859_1);
        return out.length;
    }

    int out(int i) {
        return i >= 0 && i < out.length ? out[i] & 255 : NONE;
    }

    int assume(int v) {
        if (look(v) != 0) {
            return no(look(v));
        }
        if (assumed.contains(v)) {
            return no(STATE);
        }
        if (assumed.size() == 20) {
            return no(FULL);
        }
        canGoOn = false;
        assumed.add(v);
        return assumed.size();
    }

    int free() {
        int were = assumed.size();
        assumed.clear();
        canGoOn = false;
        return were;
    }

    private boolean name(int n) {
        return n >= 1 && n <= names;
    }

    int weight(int n, int w) {
        if (!name(n) || w < 0 || w > 1000) {
            return no(BAD);
        }
        int was = weights[n];
        weights[n] = w;
        canGoOn = false;
        return was;
    }

    long weighs(int n) {
        if (!name(n)) {
            return no(BAD);
        }
        return n <= run.names ? run.weight[n] : 0;
    }

    int begin(int v) {
        if (v < 0 || v > 100) {
            return no(BAD);
        }
        int was = u;
        u = v;
        canGoOn = false;
        return was;
    }

    int forget(int v) {
        if (v < 0 || v > 800) {
            return no(BAD);
        }
        int was = m;
        m = v;
        canGoOn = false;
        return was;
    }

    private Run newRun(List<Integer> rowNumbers, List<Integer> items, List<int[]> bars) {
        Run made = new Run();
        made.names = names;
        for (int n = 1; n <= names; n++) {
            made.weight[n] = weights[n];
        }
        for (int k : rowNumbers) {
            made.base.add(new Line(k, rows.get(k)));
        }
        for (int k = 0; k < bars.size(); k++) {
            made.base.add(new Line(1000 + k, bars.get(k)));
        }
        made.assumed = new ArrayList<>(items);
        made.u = u;
        made.m = m;
        return made;
    }

    private List<Integer> allRows() {
        List<Integer> all = new ArrayList<>();
        for (int k = 0; k < rows.size(); k++) {
            all.add(k);
        }
        return all;
    }

    private boolean steps(int steps) {
        return steps >= 1 && steps <= 5000;
    }

    int solve(int steps) {
        if (!steps(steps)) {
            return no(BAD);
        }
        run = newRun(allRows(), assumed, new ArrayList<>());
        byNext = false;
        lawsThen = laws.size();
        int said = run.go(steps);
        canGoOn = said == SPENT;
        return said;
    }

    int goOn(int steps) {
        if (!steps(steps)) {
            return no(BAD);
        }
        if (!canGoOn) {
            return no(STATE);
        }
        int said = run.go(steps);
        canGoOn = said == SPENT;
        return said;
    }

    int truth(int n) {
        if (!name(n)) {
            return no(BAD);
        }
        if (run.said != 1) {
            return no(STATE);
        }
        return n > run.names ? NONE : run.truth[n] == 1 ? 1 : 0;
    }

    int solved(int what) {
        if (what < 0 || what > 9) {
            return no(BAD);
        }
        return what == 0 ? run.said : what == 8 ? run.record.size() : run.figures[what];
    }

    int quarrel(int what) {
        if (what < 0 || what > 4) {
            return no(BAD);
        }
        return run.quarrel == null ? NONE : run.quarrel[what];
    }

    int core(int what) {
        if (what < 0 || what > 1) {
            return no(BAD);
        }
        if (run.said != 0 || byNext) {
            return no(STATE);
        }
        return what == 0 ? run.coreRows.size() : run.coreItems.size();
    }

    int coreAt(int what, int k) {
        if (core(what) < 0) {
            return core(what);
        }
        List<Integer> list = what == 0 ? run.coreRows : run.coreItems;
        return k >= 0 && k < list.size() ? list.get(k) : NONE;
    }

    int shrink(int steps) {
        if (!steps(steps)) {
            return no(BAD);
        }
        if (run.said != 0 || byNext) {
            return no(STATE);
        }
        int left = steps;
        for (Integer k : new ArrayList<>(run.coreRows)) {
            List<Integer> others = new ArrayList<>(run.coreRows);
            others.remove(k);
            Run tried = newRun(others, run.coreItems, new ArrayList<>());
            int said = tried.go(left);
            left -= tried.figures[1];
            if (said < 0) {
                return said;
            }
            if (said == 0) {
                run.coreRows = others;
            }
        }
        for (Integer v : new ArrayList<>(run.coreItems)) {
            List<Integer> others = new ArrayList<>(run.coreItems);
            others.remove(v);
            Run tried = newRun(run.coreRows, others, new ArrayList<>());
            int said = tried.go(left);
            left -= tried.figures[1];
            if (said < 0) {
                return said;
            }
            if (said == 0) {
                run.coreItems = others;
            }
        }
        return run.coreRows.size() + run.coreItems.size();
    }

    int least(int steps) {
        if (!steps(steps)) {
            return no(BAD);
        }
        if (run.said != 0 || byNext || run.coreRows.size() > 10) {
            return no(STATE);
        }
        int size = run.coreRows.size();
        List<Integer> sets = new ArrayList<>();
        for (int set = 0; set < 1 << size; set++) {
            sets.add(set);
        }
        sets.sort((a, b) -> Integer.bitCount(a) != Integer.bitCount(b)
                ? Integer.compare(Integer.bitCount(a), Integer.bitCount(b)) : Integer.compare(a, b));
        int left = steps;
        for (int set : sets) {
            List<Integer> chosen = new ArrayList<>();
            for (int k = 0; k < size; k++) {
                if ((set & 1 << k) != 0) {
                    chosen.add(run.coreRows.get(k));
                }
            }
            Run tried = newRun(chosen, run.coreItems, new ArrayList<>());
            int said = tried.go(left);
            left -= tried.figures[1];
            if (said < 0) {
                return said;
            }
            if (said == 0) {
                run.coreRows = chosen;
                return chosen.size();
            }
        }
        throw new IllegalStateException("the CORE itself says YES");
    }

    int take() {
        if (run.said != 0 || byNext) {
            return no(STATE);
        }
        proof.clear();
        for (Line line : run.record) {
            proof.add(line.items);
        }
        return proof.size();
    }

    int claim(int r) {
        if (lookRow(r) != 0) {
            return no(lookRow(r));
        }
        Set<Integer> once = new LinkedHashSet<>();
        for (int v : paper[r]) {
            once.add(v);
        }
        int items = once.size();
        for (int[] row : proof) {
            items += row.length;
        }
        if (proof.size() + 1 > 800 || items > 8000) {
            return no(FULL);
        }
        proof.add(toArray(new ArrayList<>(once)));
        return proof.size();
    }

    int strike(int k) {
        if (k < 0 || k >= proof.size()) {
            return NONE;
        }
        proof.remove(k);
        return 1;
    }

    int proof(int k, int i) {
        return k >= 0 && k < proof.size() ? tell(proof.get(k), i) : NONE;
    }

    private boolean follows(int k) {
        Run tried = newRun(allRows(), new ArrayList<>(), proof.subList(0, k));
        for (int v : proof.get(k)) {
            if (tried.of(v) > 0) {
                return true;
            }
            if (tried.of(v) == 0) {
                tried.become(-v, null);
            }
        }
        return forceOn(tried) != null;
    }

    private Line forceOn(Run tried) {
        while (true) {
            Line line = tried.firstQuarrel();
            Line forcing = tried.firstForcing();
            if (line != null || forcing == null) {
                return line;
            }
            tried.become(tried.openOf(forcing), forcing);
        }
    }

    int check() {
        int at = 0;
        while (at < proof.size() && follows(at)) {
            at++;
        }
        boolean right = at == proof.size() && at > 0;
        if (right) {
            for (int v : proof.get(at - 1)) {
                right &= assumed.contains(-v);
            }
        }
        refusedAt = right ? NONE : at;
        return right ? 1 : 0;
    }

    int refusedAt() {
        return refusedAt;
    }

    int counted(int n, boolean is) {
        if (!name(n)) {
            return no(BAD);
        }
        int was = counted.contains(n) ? 1 : 0;
        if (is && was == 0 && counted.size() == 20) {
            return no(FULL);
        }
        if (is) {
            counted.add(n);
        } else {
            counted.remove(n);
        }
        return was;
    }

    private int[] barOf(Run yes) {
        List<Integer> items = new ArrayList<>();
        for (int n : counted) {
            items.add(yes.truth[n] == 1 ? -n : n);
        }
        return toArray(items);
    }

    int next(int steps) {
        if (!steps(steps)) {
            return no(BAD);
        }
        if (barred.size() == 64) {
            return no(FULL);
        }
        run = newRun(allRows(), new ArrayList<>(), barred);
        byNext = true;
        canGoOn = false;
        lawsThen = laws.size();
        int said = run.go(steps);
        if (said == 1) {
            barred.add(barOf(run));
        }
        return said;
    }

    int unbar() {
        int were = barred.size();
        barred.clear();
        return were;
    }

    int count(int most, int steps) {
        if (most < 1 || most > 64 || !steps(steps)) {
            return no(BAD);
        }
        List<int[]> bars = new ArrayList<>();
        int left = steps;
        while (bars.size() < most) {
            Run tried = newRun(allRows(), new ArrayList<>(), bars);
            int said = tried.go(left);
            left -= tried.figures[1];
            if (said == 0) {
                break;
            }
            if (said < 0) {
                return said;
            }
            bars.add(barOf(tried));
        }
        return bars.size();
    }

    int forced() {
        Run tried = newRun(allRows(), new ArrayList<>(), new ArrayList<>());
        return forceOn(tried) != null ? NONE : tried.trail.size();
    }

    int forcedAt(int k) {
        Run tried = newRun(allRows(), new ArrayList<>(), new ArrayList<>());
        forceOn(tried);
        return k >= 0 && k < tried.trail.size() ? tried.trail.get(k) : NONE;
    }

    int why(int n) {
        if (!name(n)) {
            return no(BAD);
        }
        Run tried = newRun(allRows(), new ArrayList<>(), new ArrayList<>());
        forceOn(tried);
        return tried.reason[n] == null ? NONE : tried.reason[n].number;
    }

    int trace(int i) {
        return i >= 0 && i < 100 && i < trace.size() ? trace.get(trace.size() - 1 - i) : NONE;
    }

    private long sum;

    private void add(int... numbers) {
        for (int v : numbers) {
            sum = 31 * sum + v;
        }
    }

    long digest() {
        sum = 7;
        add(names);
        for (int n = 1; n <= names; n++) {
            add(weights[n]);
        }
        for (int[] row : rows) {
            add(row);
            add(0);
        }
        add(toArray(assumed));
        add(0);
        for (int[] row : paper) {
            if (row == null) {
                add(-1);
            } else {
                add(row.length);
                add(row);
            }
        }
        add(u, m);
        for (int n = 1; n <= names; n++) {
            add(counted.contains(n) ? 1 : 0);
        }
        add(barred.size());
        return sum;
    }

    int status() {
        return status;
    }

    int about(int what) {
        int items = 0;
        for (int[] row : rows) {
            items += row.length;
        }
        int[] all = {names, laws.size(), rows.size(), items, assumed.size(), barred.size(), proof.size(),
            counted.size(), tape.size(), out.length};
        return what < 0 || what > 9 ? no(BAD) : all[what];
    }
}
