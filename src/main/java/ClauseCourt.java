import java.util.Arrays;

/** A court for yes-and-no puzzles; ../shared/DOC.md tells what each call answers and changes. */
public final class ClauseCourt {
    public static final int BAD = -1001, STATE = -1002, FULL = -1003, SPENT = -1004, NONE = -1005, NOTHING = -1011, BEYOND = -1012, CAST = -1013, SIZE = -1014;

    private static final int MOST_NAMES = 300;
    private static final int MOST_RULES = 60;
    private static final int CASE_ROWS = 500;
    private static final int CASE_ITEMS = 2500;
    private static final int RECORD_ROWS = 800;
    private static final int RECORD_ITEMS = 8000;
    private static final int MOST_ASSUMED = 20;
    private static final int MOST_COUNTED = 20;
    private static final int MOST_BARRED = 64;
    private static final int MOST_STEPS = 5000;
    private static final int LEAST_CORE = 10;
    private static final int PAPER_ROWS = 40;
    private static final int PAPER_WIDTH = 12;
    private static final int MISSING = -1;
    private static final int YES = 1;
    private static final int NO = 0;
    private static final int FAULTS = -2000;
    private static final int BARRED_FROM = 1000;
    private static final int LEARNT_FROM = 2000;
    private static final long REFUSED_LONG = 10000000000L;

    private final int[][] paper = new int[PAPER_ROWS][PAPER_WIDTH];
    private final int[] sizes = new int[PAPER_ROWS];
    private final Desk desk = new Desk();
    private final Case court = new Case();
    private final Rule[] rules = new Rule[MOST_RULES];
    private int ruleTotal;
    private final Solver latest = new Solver();
    /** What shrink(), least(), count(), check() and forced() try, they try here, so that the latest SOLVING is left alone. */
    private final Solver beside = new Solver();
    private final Rows proofRows = new Rows(RECORD_ROWS, RECORD_ITEMS);
    private final int[] coreRows = new int[CASE_ROWS];
    private int coreRowTotal;
    private final int[] coreItems = new int[MOST_ASSUMED];
    private int coreItemTotal;
    private boolean byNext;
    private boolean mayGoOn;
    private int rulesThen;
    private int checkedAt = NONE;
    private int latestRefused;

    public ClauseCourt() {
        Arrays.fill(sizes, MISSING);
    }

    // ---- NAMES, PAPER and TAPE

    public int names(int n) {
        if (n < 0 || n > MOST_NAMES) {
            return refuse(BAD);
        }
        if (n > MOST_NAMES - court.names) {
            return refuse(FULL);
        }
        court.names += n;
        mayGoOn = false;
        return court.names;
    }

    public int row(int r, int n) {
        if (!isPaper(r) || n > PAPER_WIDTH) {
            return refuse(BAD);
        }
        if (n < 0) {
            return refuse(SIZE);
        }
        Arrays.fill(paper[r], 0);
        sizes[r] = n;
        return n;
    }

    public int drop(int r) {
        if (!isPaper(r)) {
            return refuse(BAD);
        }
        sizes[r] = MISSING;
        return 1;
    }

    public int put(int r, int i, int v) {
        int fault = lookForPlace(r, i);
        if (fault != 0) {
            return refuse(fault);
        }
        paper[r][i] = v;
        return 1;
    }

    public long get(int r, int i) {
        int fault = i == -1 ? lookForRow(r) : lookForPlace(r, i);
        if (fault != 0) {
            return REFUSED_LONG * refuse(fault);
        }
        return i == -1 ? sizes[r] : paper[r][i];
    }

    public int copy(int from, int i, int to, int j, int n) {
        if (!isPaper(from) || !isPaper(to)) {
            return refuse(BAD);
        }
        if (sizes[from] == MISSING || sizes[to] == MISSING) {
            return refuse(NOTHING);
        }
        if (i < 0 || j < 0 || n < 0 || n > sizes[from] - i || n > sizes[to] - j) {
            return refuse(BEYOND);
        }
        System.arraycopy(paper[from], i, paper[to], j, n);
        return n;
    }

    public int cut(int r, int n) {
        if (!isPaper(r) || n > PAPER_WIDTH) {
            return refuse(BAD);
        }
        if (n < 0) {
            return refuse(SIZE);
        }
        if (sizes[r] == MISSING) {
            return refuse(NOTHING);
        }
        if (n > sizes[r]) {
            return refuse(BEYOND);
        }
        sizes[r] = n;
        return n;
    }

    public int feed(long w, int n) {
        if (n < 1 || n > 8) {
            return refuse(BAD);
        }
        if (!desk.takesBytes(n)) {
            return refuse(FULL);
        }
        return desk.takeBytes(w, n);
    }

    public int wipe() {
        return desk.emptyTape();
    }

    // ---- RULES

    public int clause(int r) {
        int fault = lookForItems(r);
        return fault != 0 ? refuse(fault) : admit(new Clause(itemsOf(r)));
    }

    public int atMost(int r, int k) {
        if (k < 0 || k > PAPER_WIDTH) {
            return refuse(BAD);
        }
        int fault = lookForItems(r);
        return fault != 0 ? refuse(fault) : admit(new AtMost(itemsOf(r), k));
    }

    public int group(int r, int k) {
        if (k < 0 || k > PAPER_WIDTH) {
            return refuse(BAD);
        }
        int fault = lookForItems(r);
        return fault != 0 ? refuse(fault) : admit(new Group(itemsOf(r), k));
    }

    public int parity(int r, boolean odd) {
        int fault = lookForItems(r);
        return fault != 0 ? refuse(fault) : admit(new Parity(itemsOf(r), odd));
    }

    public int told() {
        int place = desk.readTape();
        int length = desk.emptyTape();
        if (place >= 0) {
            return refuse(FAULTS - place);
        }
        int fault = desk.lookForNames(court);
        return fault != 0 ? refuse(fault) : admit(new Told(desk, length));
    }

    public int kind(int rule) {
        Rule asked = ruleAt(rule);
        return asked == null ? refuse(BAD) : asked.kindNumber();
    }

    public int as(int rule, int kind) {
        Rule asked = ruleAt(rule);
        if (asked == null || kind < 0 || kind > 4) {
            return refuse(BAD);
        }
        return isOfKind(asked, kind) ? 1 : refuse(CAST);
    }

    public int item(int rule, int i) {
        Rule asked = ruleAt(rule);
        if (asked == null) {
            return refuse(BAD);
        }
        if (i == -1) {
            return asked.items.length;
        }
        return i >= 0 && i < asked.items.length ? asked.items[i] : NONE;
    }

    public int rows(int rule, int k) {
        Rule asked = ruleAt(rule);
        if (asked == null) {
            return refuse(BAD);
        }
        return k >= 0 && k < asked.laidTotal ? asked.laidFrom + k : NONE;
    }

    public int line(int row, int i) {
        if (row >= LEARNT_FROM) {
            int k = row - LEARNT_FROM;
            return k < latest.tally[Solver.LEARNINGS] ? latest.board.rows.tell(latest.board.learntFrom + k, i) : NONE;
        }
        return row >= BARRED_FROM ? latest.bars.tell(row - BARRED_FROM, i) : court.rows.tell(row, i);
    }

    public int ask(int rule, int act) {
        Rule asked = ruleAt(rule);
        if (asked == null || act < 0 || act > 3) {
            return refuse(BAD);
        }
        switch (act) {
            case 0:
                return !saidYes() || rule >= rulesThen ? refuse(STATE) : asked.holds(latest.board, desk) ? 1 : 0;
            case 1:
                return asked.fewest(desk);
            case 2:
                return asked.greatest(desk);
            default:
                return asked.laid(desk);
        }
    }

    public int print(int rule) {
        Rule asked = ruleAt(rule);
        if (asked == null) {
            return refuse(BAD);
        }
        desk.written = 0;
        asked.write(desk);
        return desk.written;
    }

    public int export() {
        desk.written = 0;
        for (int k = 0; k < court.rows.total; k++) {
            desk.writeRow(court.rows, k);
        }
        return desk.written;
    }

    public int out(int i) {
        return i >= 0 && i < desk.written ? desk.sheet[i] & 255 : NONE;
    }

    // ---- what SOLVING is told

    public int assume(int v) {
        int fault = court.look(v);
        if (fault != 0) {
            return refuse(fault);
        }
        if (court.isAssumed(v)) {
            return refuse(STATE);
        }
        if (court.assumedTotal >= MOST_ASSUMED) {
            return refuse(FULL);
        }
        mayGoOn = false;
        court.assumed[court.assumedTotal] = v;
        court.assumedTotal++;
        return court.assumedTotal;
    }

    public int free() {
        int were = court.assumedTotal;
        court.assumedTotal = 0;
        mayGoOn = false;
        return were;
    }

    public int weight(int n, int w) {
        if (!isName(n) || w < 0 || w > 1000) {
            return refuse(BAD);
        }
        int was = court.weights[n];
        court.weights[n] = w;
        mayGoOn = false;
        return was;
    }

    public long weighs(int n) {
        if (!isName(n)) {
            return refuse(BAD);
        }
        return n <= latest.board.names ? latest.weights[n] : 0;
    }

    public int begin(int u) {
        if (u < 0 || u > 100) {
            return refuse(BAD);
        }
        int was = court.anew;
        court.anew = u;
        mayGoOn = false;
        return was;
    }

    public int forget(int m) {
        if (m < 0 || m > RECORD_ROWS) {
            return refuse(BAD);
        }
        int was = court.keep;
        court.keep = m;
        mayGoOn = false;
        return was;
    }

    // ---- SOLVING

    public int solve(int steps) {
        if (!areSteps(steps)) {
            return refuse(BAD);
        }
        latest.openBoard(court);
        latest.layAll(court.rows);
        for (int i = 0; i < court.assumedTotal; i++) {
            latest.suppose(court.assumed[i]);
        }
        latest.closeBoard();
        rulesThen = ruleTotal;
        byNext = false;
        return heed(latest.go(steps));
    }

    public int goOn(int steps) {
        if (!areSteps(steps)) {
            return refuse(BAD);
        }
        return mayGoOn ? heed(latest.go(steps)) : refuse(STATE);
    }

    public int truth(int n) {
        if (!isName(n)) {
            return refuse(BAD);
        }
        if (!saidYes()) {
            return refuse(STATE);
        }
        if (n > latest.board.names) {
            return NONE;
        }
        return latest.board.isTrue(n) ? 1 : 0;
    }

    public int solved(int what) {
        return what < 0 || what > 9 ? refuse(BAD) : latest.tally[what];
    }

    public int quarrel(int what) {
        return what < 0 || what > 4 ? refuse(BAD) : latest.clash[what];
    }

    // ---- the CORE

    public int core(int what) {
        if (what < 0 || what > 1) {
            return refuse(BAD);
        }
        if (!saidNo()) {
            return refuse(STATE);
        }
        return what == 0 ? coreRowTotal : coreItemTotal;
    }

    public int coreAt(int what, int k) {
        int total = core(what);
        if (total < 0) {
            return total;
        }
        if (k < 0 || k >= total) {
            return NONE;
        }
        return what == 0 ? coreRows[k] : coreItems[k];
    }

    public int shrink(int steps) {
        if (!areSteps(steps)) {
            return refuse(BAD);
        }
        if (!saidNo()) {
            return refuse(STATE);
        }
        int given = steps;
        int place = 0;
        for (int tries = coreRowTotal + coreItemTotal; tries > 0; tries--) {
            layWithout(place);
            int said = beside.go(given);
            given -= beside.tally[Solver.STEPS];
            if (said != YES && said != NO) {
                return said;
            }
            if (said == NO) {
                dismiss(place);
            } else {
                place++;
            }
        }
        return coreRowTotal + coreItemTotal;
    }

    public int least(int steps) {
        if (!areSteps(steps)) {
            return refuse(BAD);
        }
        if (!saidNo() || coreRowTotal > LEAST_CORE) {
            return refuse(STATE);
        }
        int given = steps;
        for (int size = 0; size <= coreRowTotal; size++) {
            for (int set = 0; set < 1 << coreRowTotal; set++) {
                if (Integer.bitCount(set) != size) {
                    continue;
                }
                laySet(set);
                int said = beside.go(given);
                given -= beside.tally[Solver.STEPS];
                if (said == NO) {
                    keepSet(set);
                    return coreRowTotal;
                }
                if (said != YES) {
                    return said;
                }
            }
        }
        return coreRowTotal;
    }

    // ---- PROOF

    public int take() {
        if (!saidNo()) {
            return refuse(STATE);
        }
        Board board = latest.board;
        proofRows.shortenTo(0);
        for (int k = board.learntFrom; k < board.rows.total; k++) {
            proofRows.push(board.rows.items, board.rows.starts[k], board.rows.size(k));
        }
        return proofRows.total;
    }

    public int claim(int r) {
        int fault = lookForItems(r);
        if (fault != 0) {
            return refuse(fault);
        }
        for (int i = 0; i < sizes[r]; i++) {
            court.add(paper[r][i]);
        }
        int size = court.drafted;
        court.drafted = 0;
        return proofRows.push(court.draft, 0, size) ? proofRows.total : refuse(FULL);
    }

    public int strike(int k) {
        if (!proofRows.has(k)) {
            return NONE;
        }
        proofRows.remove(k);
        return 1;
    }

    public int proof(int k, int i) {
        return proofRows.tell(k, i);
    }

    public int check() {
        int at = firstRefused();
        boolean right = at == proofRows.total && endsRightly();
        checkedAt = right ? NONE : at;
        return right ? 1 : 0;
    }

    public int refusedAt() {
        return checkedAt;
    }

    // ---- counting

    public int counted(int n, boolean is) {
        if (!isName(n)) {
            return refuse(BAD);
        }
        boolean was = court.counted[n];
        if (is && !was && court.countedTotal >= MOST_COUNTED) {
            return refuse(FULL);
        }
        court.counted[n] = is;
        court.countedTotal += (is ? 1 : 0) - (was ? 1 : 0);
        return was ? 1 : 0;
    }

    public int next(int steps) {
        if (!areSteps(steps)) {
            return refuse(BAD);
        }
        if (latest.bars.total >= MOST_BARRED) {
            return refuse(FULL);
        }
        rulesThen = ruleTotal;
        byNext = true;
        mayGoOn = false;
        latest.openNext(court);
        int said = latest.go(steps);
        if (said == YES) {
            latest.barTruth(court);
        }
        return said;
    }

    public int unbar() {
        int were = latest.bars.total;
        latest.bars.shortenTo(0);
        return were;
    }

    public int count(int most, int steps) {
        if (most < 1 || most > MOST_BARRED || !areSteps(steps)) {
            return refuse(BAD);
        }
        beside.bars.shortenTo(0);
        int given = steps;
        for (int times = 0; times < most; times++) {
            beside.openNext(court);
            int said = beside.go(given);
            given -= beside.tally[Solver.STEPS];
            if (said != YES) {
                return said == NO ? times : said;
            }
            beside.barTruth(court);
        }
        return most;
    }

    // ---- what is forced, and why

    public int forced() {
        return forceCase() >= 0 ? NONE : beside.board.trailTotal;
    }

    public int forcedAt(int k) {
        forceCase();
        return k >= 0 && k < beside.board.trailTotal ? beside.board.trail[k] : NONE;
    }

    public int why(int n) {
        if (!isName(n)) {
            return refuse(BAD);
        }
        forceCase();
        return beside.board.valueOf(n) == 0 ? NONE : beside.board.reasons[n];
    }

    // ---- what is told of the whole

    public int trace(int i) {
        return desk.noted(i);
    }

    public long digest() {
        long sum = 31 * 7L + court.names;
        for (int n = 1; n <= court.names; n++) {
            sum = 31 * sum + court.weights[n];
        }
        for (int k = 0; k < court.rows.total; k++) {
            sum = 31 * addUp(sum, court.rows.items, court.rows.starts[k], court.rows.size(k));
        }
        sum = 31 * addUp(sum, court.assumed, 0, court.assumedTotal);
        for (int r = 0; r < PAPER_ROWS; r++) {
            sum = addUp(31 * sum + sizes[r], paper[r], 0, sizes[r]);
        }
        sum = 31 * (31 * sum + court.anew) + court.keep;
        for (int n = 1; n <= court.names; n++) {
            sum = 31 * sum + (court.counted[n] ? 1 : 0);
        }
        return 31 * sum + latest.bars.total;
    }

    public int status() {
        return latestRefused;
    }

    public int about(int what) {
        switch (what) {
            case 0:
                return court.names;
            case 1:
                return ruleTotal;
            case 2:
                return court.rows.total;
            case 3:
                return court.rows.itemTotal();
            case 4:
                return court.assumedTotal;
            case 5:
                return latest.bars.total;
            case 6:
                return proofRows.total;
            case 7:
                return court.countedTotal;
            case 8:
                return desk.taped;
            case 9:
                return desk.written;
            default:
                return refuse(BAD);
        }
    }

    // ---- helpers of the face

    private int refuse(int code) {
        latestRefused = code;
        return code;
    }

    private static boolean isPaper(int r) {
        return r >= 0 && r < PAPER_ROWS;
    }

    private static boolean areSteps(int steps) {
        return steps >= 1 && steps <= MOST_STEPS;
    }

    private boolean isName(int n) {
        return n >= 1 && n <= court.names;
    }

    private boolean saidYes() {
        return latest.tally[Solver.SAID] == YES;
    }

    private boolean saidNo() {
        return latest.tally[Solver.SAID] == NO && !byNext;
    }

    private Rule ruleAt(int rule) {
        return rule >= 0 && rule < ruleTotal ? rules[rule] : null;
    }

    private static boolean isOfKind(Rule rule, int kind) {
        switch (kind) {
            case 0:
                return rule instanceof Clause;
            case 1:
                return rule instanceof AtMost;
            case 2:
                return rule instanceof Group;
            case 3:
                return rule instanceof Parity;
            default:
                return rule instanceof Told;
        }
    }

    private int lookForRow(int r) {
        if (!isPaper(r)) {
            return BAD;
        }
        return sizes[r] == MISSING ? NOTHING : 0;
    }

    private int lookForPlace(int r, int i) {
        int fault = lookForRow(r);
        if (fault != 0) {
            return fault;
        }
        return i < 0 || i >= sizes[r] ? BEYOND : 0;
    }

    private int lookForItems(int r) {
        int fault = lookForRow(r);
        if (fault != 0) {
            return fault;
        }
        for (int i = 0; i < sizes[r] && fault == 0; i++) {
            fault = court.look(paper[r][i]);
        }
        return fault;
    }

    private int[] itemsOf(int r) {
        return Arrays.copyOf(paper[r], sizes[r]);
    }

    /** FULL is known only when all is laid, so a RULE is laid first and taken back if it was too much. */
    private int admit(Rule rule) {
        int rowsBefore = court.rows.total;
        int namesBefore = court.names;
        court.over = ruleTotal >= MOST_RULES;
        rule.layInto(court);
        if (court.over) {
            court.rows.shortenTo(rowsBefore);
            court.names = namesBefore;
            return refuse(FULL);
        }
        rule.laidFrom = rowsBefore;
        rule.laidTotal = court.rows.total - rowsBefore;
        rules[ruleTotal] = rule;
        ruleTotal++;
        mayGoOn = false;
        return ruleTotal - 1;
    }

    private int heed(int said) {
        mayGoOn = said == SPENT;
        if (said == NO) {
            keepCore();
        }
        return said;
    }

    private void keepCore() {
        coreRowTotal = 0;
        int last = latest.tally[Solver.RECORDED] - 1;
        for (int k = 0; k < court.rows.total; k++) {
            if (latest.hasSource(last, k)) {
                coreRows[coreRowTotal] = k;
                coreRowTotal++;
            }
        }
        Rows record = latest.board.rows;
        int noRow = record.total - 1;
        coreItemTotal = Math.min(record.size(noRow), MOST_ASSUMED);
        for (int i = 0; i < coreItemTotal; i++) {
            coreItems[i] = -record.tell(noRow, i);
        }
    }

    /** The places of the CORE go on from its ROWS to its ITEMS. */
    private void layWithout(int place) {
        beside.openBoard(court);
        for (int k = 0; k < coreRowTotal; k++) {
            if (k != place) {
                beside.board.layRow(court.rows, coreRows[k]);
            }
        }
        supposeItems(place - coreRowTotal);
    }

    private void supposeItems(int without) {
        for (int k = 0; k < coreItemTotal; k++) {
            if (k != without) {
                beside.suppose(coreItems[k]);
            }
        }
        beside.closeBoard();
    }

    private void laySet(int set) {
        beside.openBoard(court);
        for (int k = 0; k < coreRowTotal; k++) {
            if ((set >> k & 1) == 1) {
                beside.board.layRow(court.rows, coreRows[k]);
            }
        }
        supposeItems(-1);
    }

    private void dismiss(int place) {
        if (place < coreRowTotal) {
            coreRowTotal--;
            System.arraycopy(coreRows, place + 1, coreRows, place, coreRowTotal - place);
            return;
        }
        int at = place - coreRowTotal;
        if (at < coreItemTotal) {
            coreItemTotal--;
            System.arraycopy(coreItems, at + 1, coreItems, at, coreItemTotal - at);
        }
    }

    private void keepSet(int set) {
        int kept = 0;
        for (int k = 0; k < coreRowTotal; k++) {
            if ((set >> k & 1) == 1) {
                coreRows[kept] = coreRows[k];
                kept++;
            }
        }
        coreRowTotal = kept;
    }

    private int firstRefused() {
        Board board = beside.board;
        board.clear(court.names);
        for (int k = 0; k < court.rows.total; k++) {
            board.layRow(court.rows, k);
        }
        for (int k = 0; k < proofRows.total; k++) {
            if (!board.follows(proofRows, k)) {
                return k;
            }
            board.layRow(proofRows, k);
        }
        return proofRows.total;
    }

    private boolean endsRightly() {
        int last = proofRows.total - 1;
        for (int i = 0; i < proofRows.size(last); i++) {
            if (!court.isAssumed(-proofRows.tell(last, i))) {
                return false;
            }
        }
        return last >= 0;
    }

    private int forceCase() {
        beside.board.clear(court.names);
        for (int k = 0; k < court.rows.total; k++) {
            beside.board.layRow(court.rows, k);
        }
        return beside.board.settle();
    }

    private static long addUp(long sum, int[] numbers, int from, int size) {
        long result = sum;
        for (int i = from; i < from + size; i++) {
            result = 31 * result + numbers[i];
        }
        return result;
    }

    /** A list of ROWS, the ITEMS of all of them one behind the other. */
    private static final class Rows {
        private final int[] items;
        private final int[] starts;
        private int total;

        Rows(int mostRows, int mostItems) {
            items = new int[mostItems];
            starts = new int[mostRows + 1];
        }

        boolean has(int k) {
            return k >= 0 && k < total;
        }

        /** False, and nothing comes, if there is no room. */
        boolean push(int[] from, int at, int size) {
            boolean room = total + 1 < starts.length && size >= 0 && size <= items.length - starts[total];
            if (!room || at < 0 || size > from.length - at) {
                return false;
            }
            System.arraycopy(from, at, items, starts[total], size);
            starts[total + 1] = starts[total] + size;
            total++;
            return true;
        }

        int size(int k) {
            return has(k) ? starts[k + 1] - starts[k] : 0;
        }

        int itemTotal() {
            return starts[total];
        }

        int tell(int k, int i) {
            if (!has(k) || i < -1 || i >= size(k)) {
                return NONE;
            }
            return i == -1 ? size(k) : items[starts[k] + i];
        }

        void shortenTo(int rowsLeft) {
            if (rowsLeft >= 0 && rowsLeft < total) {
                total = rowsLeft;
            }
        }

        void remove(int k) {
            if (!has(k)) {
                return;
            }
            int size = size(k);
            System.arraycopy(items, starts[k + 1], items, starts[k], starts[total] - starts[k + 1]);
            for (int i = k + 1; i < total; i++) {
                starts[i] = starts[i + 1] - size;
            }
            total--;
        }
    }

    /** All that is told ahead of SOLVING: NAMES, ROWS, what is ASSUMED, COUNTED and weighed. */
    private static final class Case {
        private final Rows rows = new Rows(CASE_ROWS, CASE_ITEMS);
        private final int[] weights = new int[MOST_NAMES + 1];
        private final boolean[] counted = new boolean[MOST_NAMES + 1];
        private final int[] assumed = new int[MOST_ASSUMED];
        private final int[] draft = new int[PAPER_WIDTH];
        private int names;
        private int countedTotal;
        private int assumedTotal;
        private int anew;
        private int keep;
        private int drafted;
        private boolean over;

        int look(int v) {
            if (v == 0 || v > MOST_NAMES || v < -MOST_NAMES) {
                return BEYOND;
            }
            return Math.abs(v) > names ? NOTHING : 0;
        }

        boolean isAssumed(int v) {
            for (int i = 0; i < assumedTotal; i++) {
                if (assumed[i] == v) {
                    return true;
                }
            }
            return false;
        }

        int makeName() {
            names++;
            over = over || names > MOST_NAMES;
            return names;
        }

        /** 0 stands for an ITEM that there is not, so that callers need not ask. */
        void add(int v) {
            for (int i = 0; i < drafted; i++) {
                if (draft[i] == v) {
                    return;
                }
            }
            if (v != 0 && drafted < draft.length) {
                draft[drafted] = v;
                drafted++;
            }
        }

        void layDraft() {
            boolean laid = rows.push(draft, 0, drafted);
            over = over || !laid;
            drafted = 0;
        }

        void lay(int a, int b, int c) {
            add(a);
            add(b);
            add(c);
            layDraft();
        }
    }

    /** TAPE with the reader of its TEXT, OUT and TRACE. */
    private static final class Desk {
        private static final int TAPE_BYTES = 60;
        private static final int OUT_BYTES = 13500;
        private static final int TRACED = 100;
        private static final int DEEPEST = 8;
        private static final int MOST_PARTS = 8;
        private static final int OPERATOR = 10000;
        private static final String OPERATORS = "&|>j";
        private static final int THEN = 2;
        private static final int PART = 0;
        private static final int PAREN = 1;
        private static final int DIGIT = 2;
        private static final int MORE_DIGITS = 3;
        private static final int BEHIND = 4;

        private final byte[] tape = new byte[TAPE_BYTES];
        private int taped;
        private final byte[] sheet = new byte[OUT_BYTES];
        private int written;
        private final int[] ring = new int[TRACED];
        private int notes;
        /** The TEXT with each sign behind its PARTS: NAMES (below 0: denied), and OPERATOR + 1000 * sign + 10 * PARTS + denied. */
        private final int[] codes = new int[TAPE_BYTES];
        private int coded;
        private final int[] signs = new int[DEEPEST];
        private final int[] parts = new int[DEEPEST];
        private final int[] denials = new int[DEEPEST];
        private int depth;
        private int awaited;
        private int sign;
        private int denied;
        private int number;
        private int digits;

        boolean takesBytes(int n) {
            return n >= 0 && n <= TAPE_BYTES - taped;
        }

        int takeBytes(long w, int n) {
            for (int i = n - 1; i >= 0 && taped < TAPE_BYTES; i--) {
                tape[taped] = (byte) (w >> 8 * i);
                taped++;
            }
            return taped;
        }

        int emptyTape() {
            int had = taped;
            taped = 0;
            return had;
        }

        /** The FAULT of the TEXT, -1 if it has none. */
        int readTape() {
            coded = 0;
            depth = 0;
            denied = 0;
            awaited = PART;
            for (int i = 0; i < taped; i++) {
                if (!accepts(tape[i])) {
                    return i;
                }
            }
            if (awaited == MORE_DIGITS) {
                endNumber();
            }
            return awaited == BEHIND && depth == 0 ? -1 : taped;
        }

        private boolean accepts(int b) {
            if (awaited == MORE_DIGITS) {
                if (isDigit(b)) {
                    return acceptsDigit(b);
                }
                endNumber();
            }
            switch (awaited) {
                case PART:
                    return acceptsPart(b);
                case PAREN:
                    return acceptsParen(b);
                case DIGIT:
                    number = 0;
                    digits = 0;
                    awaited = MORE_DIGITS;
                    return isDigit(b) && acceptsDigit(b);
                default:
                    return acceptsBehind(b);
            }
        }

        private static boolean isDigit(int b) {
            return b >= '0' && b <= '9';
        }

        private boolean acceptsDigit(int b) {
            number = 10 * number + b - '0';
            digits++;
            return digits <= 3;
        }

        private boolean acceptsPart(int b) {
            if (depth > 0 && parts[depth - 1] >= MOST_PARTS) {
                return false;
            }
            if (b == '!') {
                denied = 1 - denied;
                return true;
            }
            sign = OPERATORS.indexOf((char) (b & 255));
            awaited = b == 'x' ? DIGIT : PAREN;
            return b == 'x' || sign >= 0;
        }

        private boolean acceptsParen(int b) {
            if (b != '(' || depth >= DEEPEST) {
                return false;
            }
            signs[depth] = sign;
            parts[depth] = 0;
            denials[depth] = denied;
            depth++;
            denied = 0;
            awaited = PART;
            return true;
        }

        private boolean acceptsBehind(int b) {
            if (depth == 0) {
                return false;
            }
            int held = parts[depth - 1];
            boolean then = signs[depth - 1] == THEN;
            if (b == ',') {
                awaited = PART;
                return !then || held < 2;
            }
            if (b != ')' || then && held < 2) {
                return false;
            }
            depth--;
            endPart(OPERATOR + 1000 * signs[depth] + 10 * held + denials[depth]);
            return true;
        }

        private void endNumber() {
            endPart(denied == 1 ? -number : number);
            denied = 0;
        }

        private void endPart(int code) {
            if (coded < codes.length) {
                codes[coded] = code;
                coded++;
            }
            if (depth > 0) {
                parts[depth - 1]++;
            }
            awaited = BEHIND;
        }

        int lookForNames(Case court) {
            for (int i = 0; i < coded; i++) {
                int fault = codes[i] < OPERATOR ? court.look(codes[i]) : 0;
                if (fault != 0) {
                    return fault;
                }
            }
            return 0;
        }

        int[] namesRead() {
            int total = 0;
            for (int i = 0; i < coded; i++) {
                total += codes[i] < OPERATOR ? 1 : 0;
            }
            int[] found = new int[total];
            int at = 0;
            for (int i = 0; i < coded && at < total; i++) {
                if (codes[i] < OPERATOR) {
                    found[at] = Math.abs(codes[i]);
                    at++;
                }
            }
            return found;
        }

        void writeByte(int b) {
            if (written < sheet.length) {
                sheet[written] = (byte) b;
                written++;
            }
        }

        void writeText(String text) {
            for (int i = 0; i < text.length(); i++) {
                writeByte(text.charAt(i));
            }
        }

        void writeNumber(int v) {
            if (v < 0) {
                writeByte('-');
            }
            int size = Math.abs(v);
            if (size >= 100) {
                writeByte('0' + size / 100 % 10);
            }
            if (size >= 10) {
                writeByte('0' + size / 10 % 10);
            }
            writeByte('0' + size % 10);
        }

        void writeList(int[] items) {
            note(64);
            writeByte('(');
            for (int i = 0; i < items.length; i++) {
                if (i > 0) {
                    writeByte(',');
                }
                writeNumber(items[i]);
            }
            writeByte(')');
        }

        void writeRow(Rows rows, int k) {
            for (int i = 0; i < rows.size(k); i++) {
                writeNumber(rows.tell(k, i));
                writeByte(' ');
            }
            writeByte('0');
            writeByte(10);
        }

        void note(int body) {
            ring[notes % TRACED] = body;
            notes++;
        }

        int noted(int i) {
            return i >= 0 && i < TRACED && i < notes ? ring[(notes - 1 - i) % TRACED] : NONE;
        }
    }

    /** What all RULES have; each ACT tells TRACE which BODY it is. */
    private abstract static class Rule {
        final int[] items;
        int laidFrom;
        int laidTotal;

        Rule(int[] items) {
            this.items = items;
        }

        abstract int kindNumber();

        abstract void layInto(Case court);

        abstract boolean holds(Board truths, Desk desk);

        abstract void write(Desk desk);

        int fewest(Desk desk) {
            desk.note(51);
            return 0;
        }

        int greatest(Desk desk) {
            desk.note(52);
            return items.length;
        }

        int laid(Desk desk) {
            desk.note(53);
            return laidTotal;
        }

        int trueOnes(Board truths) {
            int found = 0;
            for (int i = 0; i < items.length; i++) {
                found += truths.isTrue(items[i]) ? 1 : 0;
            }
            return found;
        }
    }

    private static class Clause extends Rule {
        Clause(int[] items) {
            super(items);
        }

        int kindNumber() {
            return 0;
        }

        void layInto(Case court) {
            for (int i = 0; i < items.length; i++) {
                court.add(items[i]);
            }
            court.layDraft();
        }

        boolean holds(Board truths, Desk desk) {
            desk.note(0);
            return trueOnes(truths) > 0;
        }

        int fewest(Desk desk) {
            desk.note(1);
            return super.fewest(desk) + 1;
        }

        void write(Desk desk) {
            desk.note(4);
            desk.writeText("some");
            desk.writeList(items);
        }
    }

    private static class AtMost extends Clause {
        final int bound;

        AtMost(int[] items, int bound) {
            super(items);
            this.bound = bound;
        }

        int kindNumber() {
            return 1;
        }

        void layInto(Case court) {
            int[] sums = laySums(court);
            if (items.length > bound) {
                court.lay(-sums[bound + 1], 0, 0);
            }
        }

        /** S(n, j) at place j, as far as there is one; 0 stands for a p or q that there is not. */
        int[] laySums(Case court) {
            int[] sums = new int[bound + 2];
            if (items.length > 0) {
                sums[1] = items[0];
            }
            for (int i = 2; i <= items.length; i++) {
                int x = items[i - 1];
                int q = 0;
                for (int j = 1; j <= i && j <= bound + 1; j++) {
                    int p = j < i ? sums[j] : 0;
                    int s = court.makeName();
                    if (p != 0) {
                        court.lay(-p, s, 0);
                    }
                    court.lay(-x, -q, s);
                    court.lay(p, x, -s);
                    if (q != 0) {
                        court.lay(p, q, -s);
                    }
                    sums[j] = s;
                    q = p;
                }
            }
            return sums;
        }

        boolean holds(Board truths, Desk desk) {
            desk.note(10);
            return trueOnes(truths) <= bound;
        }

        int fewest(Desk desk) {
            desk.note(11);
            return super.fewest(desk) - 1;
        }

        int greatest(Desk desk) {
            desk.note(12);
            return Math.min(super.greatest(desk), bound);
        }

        void write(Desk desk) {
            desk.note(14);
            desk.writeText("most ");
            desk.writeNumber(bound);
            desk.writeList(items);
        }
    }

    private static final class Group extends AtMost {
        Group(int[] items, int bound) {
            super(items, bound);
        }

        int kindNumber() {
            return 2;
        }

        void layInto(Case court) {
            int[] sums = laySums(court);
            if (items.length > bound) {
                court.lay(-sums[bound + 1], 0, 0);
            }
            if (bound > items.length) {
                court.layDraft();
            } else if (bound > 0) {
                court.lay(sums[bound], 0, 0);
            }
        }

        boolean holds(Board truths, Desk desk) {
            desk.note(20);
            return super.holds(truths, desk) && trueOnes(truths) >= bound;
        }

        int fewest(Desk desk) {
            desk.note(21);
            return bound;
        }

        void write(Desk desk) {
            desk.note(24);
            desk.writeText("just ");
            super.write(desk);
        }
    }

    private static final class Parity extends Rule {
        private final boolean odd;

        Parity(int[] items, boolean odd) {
            super(items);
            this.odd = odd;
        }

        int kindNumber() {
            return 3;
        }

        void layInto(Case court) {
            int p = items.length > 0 ? items[0] : 0;
            for (int i = 1; i < items.length; i++) {
                p = layPair(court, p, items[i]);
            }
            if (items.length > 0 || odd) {
                court.lay(odd ? p : -p, 0, 0);
            }
        }

        private static int layPair(Case court, int p, int x) {
            int s = court.makeName();
            court.lay(-p, -x, -s);
            court.lay(p, x, -s);
            court.lay(p, -x, s);
            court.lay(-p, x, s);
            return s;
        }

        boolean holds(Board truths, Desk desk) {
            desk.note(30);
            return (trueOnes(truths) % 2 == 1) == odd;
        }

        int fewest(Desk desk) {
            desk.note(31);
            return super.fewest(desk) + (odd ? 1 : 0);
        }

        int greatest(Desk desk) {
            desk.note(32);
            int most = super.greatest(desk);
            return (most % 2 == 1) == odd ? most : most - 1;
        }

        void write(Desk desk) {
            desk.note(34);
            desk.writeText(odd ? "odd" : "even");
            desk.writeList(items);
        }
    }

    private static final class Told extends Clause {
        private final byte[] text;
        private final int[] codes;
        private final int[] stack;

        Told(Desk desk, int length) {
            super(desk.namesRead());
            text = Arrays.copyOf(desk.tape, length);
            codes = Arrays.copyOf(desk.codes, desk.coded);
            stack = new int[desk.coded + 1];
        }

        int kindNumber() {
            return 4;
        }

        void layInto(Case court) {
            int top = 0;
            for (int i = 0; i < codes.length; i++) {
                int code = codes[i];
                if (code >= Desk.OPERATOR) {
                    int m = partsOf(code);
                    int z = court.makeName();
                    top = Math.max(top - m, 0);
                    switch (signOf(code)) {
                        case 0:
                            layAll(court, top, m, z);
                            break;
                        case 1:
                            laySome(court, top, m, z);
                            break;
                        case 2:
                            layThen(court, stack[top], stack[top + 1], z);
                            break;
                        default:
                            layJustOne(court, top, m, z);
                            break;
                    }
                    code = code % 10 == 1 ? -z : z;
                }
                stack[top] = code;
                top++;
            }
            court.lay(stack[0], 0, 0);
        }

        private static int signOf(int code) {
            return code / 1000 - Desk.OPERATOR / 1000;
        }

        private static int partsOf(int code) {
            return code / 10 % 100;
        }

        private void layAll(Case court, int from, int m, int z) {
            for (int i = from; i < from + m; i++) {
                court.lay(stack[i], -z, 0);
            }
            court.add(z);
            for (int i = from; i < from + m; i++) {
                court.add(-stack[i]);
            }
            court.layDraft();
        }

        private void laySome(Case court, int from, int m, int z) {
            for (int i = from; i < from + m; i++) {
                court.lay(-stack[i], z, 0);
            }
            addParts(court, from, m);
            court.lay(-z, 0, 0);
        }

        private static void layThen(Case court, int p, int q, int z) {
            court.lay(p, z, 0);
            court.lay(-q, z, 0);
            court.lay(-p, q, -z);
        }

        private void addParts(Case court, int from, int m) {
            for (int i = from; i < from + m; i++) {
                court.add(stack[i]);
            }
        }

        private void layJustOne(Case court, int from, int m, int z) {
            addParts(court, from, m);
            court.lay(-z, 0, 0);
            for (int i = from; i < from + m; i++) {
                for (int h = i + 1; h < from + m; h++) {
                    court.lay(-stack[i], -stack[h], -z);
                }
            }
            for (int i = from; i < from + m; i++) {
                court.add(z);
                court.add(-stack[i]);
                for (int h = from; h < from + m; h++) {
                    court.add(h == i ? 0 : stack[h]);
                }
                court.layDraft();
            }
        }

        boolean holds(Board truths, Desk desk) {
            desk.note(40);
            int top = 0;
            for (int i = 0; i < codes.length; i++) {
                int code = codes[i];
                boolean so;
                if (code >= Desk.OPERATOR) {
                    int m = partsOf(code);
                    top = Math.max(top - m, 0);
                    so = isSo(signOf(code), top, m) != (code % 10 == 1);
                } else {
                    so = truths.isTrue(code);
                }
                stack[top] = so ? 1 : 0;
                top++;
            }
            return stack[0] == 1;
        }

        private boolean isSo(int sign, int from, int m) {
            int so = 0;
            for (int i = from; i < from + m; i++) {
                so += stack[i];
            }
            switch (sign) {
                case 0:
                    return so == m;
                case 1:
                    return so > 0;
                case 2:
                    return stack[from] == 0 || stack[from + 1] == 1;
                default:
                    return so == 1;
            }
        }

        int greatest(Desk desk) {
            desk.note(42);
            return 1;
        }

        void write(Desk desk) {
            desk.note(44);
            for (int i = 0; i < text.length; i++) {
                desk.writeByte(text[i]);
            }
        }
    }

    /** ROWS in their ORDER, THE TRAIL, and which ROWS are a QUARREL or force an ITEM just now. */
    private static final class Board {
        private static final int MOST_LAID = CASE_ROWS + MOST_BARRED + RECORD_ROWS;
        private static final int MOST_PLACES = CASE_ITEMS + MOST_BARRED * MOST_COUNTED + RECORD_ITEMS;
        private static final int WORDS = MOST_LAID / 64 + 1;
        /** What a TRUE ITEM counts for: more than all open ones of a ROW can. */
        private static final int TRUE_ONE = 1000;
        private static final int GONE = 1000000;

        private final Rows rows = new Rows(MOST_LAID, MOST_PLACES);
        /** By ITEM + MOST_NAMES, 1 more than the latest place where it stands; links lead on to the earlier ones. */
        private final int[] heads = new int[2 * MOST_NAMES + 1];
        private final int[] links = new int[MOST_PLACES];
        private final int[] owners = new int[MOST_PLACES];
        /** Of each ROW: its open ITEMS, and TRUE_ONE for each TRUE one. */
        private final int[] left = new int[MOST_LAID];
        private final long[] quarrels = new long[WORDS];
        private final long[] units = new long[WORDS];
        private final int[] values = new int[MOST_NAMES + 1];
        private final int[] latest = new int[MOST_NAMES + 1];
        private final int[] levels = new int[MOST_NAMES + 1];
        private final int[] reasons = new int[MOST_NAMES + 1];
        private final int[] trail = new int[MOST_NAMES + 1];
        private int trailTotal;
        private int level;
        private int names;
        private int barsFrom;
        private int learntFrom;

        void clear(int nameTotal) {
            rows.shortenTo(0);
            Arrays.fill(heads, 0);
            Arrays.fill(quarrels, 0);
            Arrays.fill(units, 0);
            Arrays.fill(values, 0);
            Arrays.fill(latest, 0);
            trailTotal = 0;
            level = 0;
            names = nameTotal;
        }

        int valueOf(int v) {
            return v > 0 ? values[v] : -values[-v];
        }

        boolean isTrue(int v) {
            return valueOf(v) > 0;
        }

        void layRow(Rows from, int k) {
            lay(from.items, from.starts[k], from.size(k));
        }

        void lay(int[] from, int at, int size) {
            int slot = rows.total;
            if (!rows.push(from, at, size)) {
                return;
            }
            int now = 0;
            for (int place = rows.starts[slot]; place < rows.starts[slot + 1]; place++) {
                int v = rows.items[place];
                owners[place] = slot;
                links[place] = heads[v + MOST_NAMES];
                heads[v + MOST_NAMES] = place + 1;
                now += valueOf(v) > 0 ? TRUE_ONE : valueOf(v) + 1;
            }
            left[slot] = now;
            sort(slot);
        }

        /** Takes a ROW out of FORCING; what it is made of stays to be told. */
        void bury(int slot) {
            left[slot] += GONE;
            sort(slot);
        }

        private void sort(int slot) {
            int word = slot / 64;
            long bit = 1L << slot % 64;
            quarrels[word] &= ~bit;
            units[word] &= ~bit;
            if (left[slot] == 0) {
                quarrels[word] |= bit;
            }
            if (left[slot] == 1) {
                units[word] |= bit;
            }
        }

        private void recount(int v, int change) {
            int place = heads[v + MOST_NAMES];
            for (int seen = 0; place > 0 && seen < owners.length; seen++) {
                int slot = owners[place - 1];
                int was = left[slot];
                left[slot] = was + change;
                if (was <= 1 || was + change <= 1) {
                    sort(slot);
                }
                place = links[place - 1];
            }
        }

        void assign(int v, int reason) {
            int n = Math.abs(v);
            if (n == 0 || n > MOST_NAMES || trailTotal >= trail.length) {
                return;
            }
            values[n] = v > 0 ? 1 : -1;
            levels[n] = level;
            reasons[n] = reason;
            trail[trailTotal] = v;
            trailTotal++;
            recount(v, TRUE_ONE - 1);
            recount(-v, -1);
        }

        void backTo(int lower) {
            for (int i = trailTotal - 1; i >= 0 && levels[Math.abs(trail[i])] > lower; i--) {
                int v = trail[i];
                int n = Math.abs(v);
                latest[n] = v > 0 ? 1 : 0;
                values[n] = 0;
                trailTotal = i;
                recount(v, 1 - TRUE_ONE);
                recount(-v, 1);
            }
            level = lower;
        }

        int firstQuarrel() {
            return firstOf(quarrels);
        }

        int firstUnit() {
            return firstOf(units);
        }

        private static int firstOf(long[] bits) {
            for (int word = 0; word < bits.length; word++) {
                if (bits[word] != 0) {
                    return 64 * word + Long.bitCount((bits[word] & -bits[word]) - 1);
                }
            }
            return -1;
        }

        int openItem(int slot) {
            for (int i = rows.starts[slot]; i < rows.starts[slot + 1]; i++) {
                int v = rows.items[i];
                if (valueOf(v) == 0) {
                    return v;
                }
            }
            return 0;
        }

        /** FORCING to its end: the QUARREL, -1 if there is none. */
        int settle() {
            for (int turns = 0; turns <= MOST_NAMES; turns++) {
                int quarrel = firstQuarrel();
                int unit = firstUnit();
                if (quarrel >= 0 || unit < 0) {
                    return quarrel;
                }
                assign(openItem(unit), unit);
            }
            return -1;
        }

        /** What is forced without the ROW's ITEMS being FALSE stays, as it is forced with them, too. */
        boolean follows(Rows from, int k) {
            boolean clash = settle() >= 0;
            level = 1;
            for (int i = 0; i < from.size(k) && !clash; i++) {
                int v = from.tell(k, i);
                clash = isTrue(v);
                if (valueOf(v) == 0) {
                    assign(-v, -1);
                }
            }
            clash = clash || settle() >= 0;
            backTo(0);
            return clash;
        }

        boolean isReason(int slot) {
            for (int i = rows.starts[slot]; i < rows.starts[slot + 1]; i++) {
                int v = rows.items[i];
                if (isTrue(v) && reasons[Math.abs(v)] == slot) {
                    return true;
                }
            }
            return false;
        }

        int numberOf(int slot) {
            if (slot >= learntFrom) {
                return LEARNT_FROM + slot - learntFrom;
            }
            return slot >= barsFrom ? BARRED_FROM + slot - barsFrom : slot;
        }

        boolean recordTakes(int size) {
            int itemsBefore = rows.starts[learntFrom];
            return rows.total - learntFrom < RECORD_ROWS && size <= RECORD_ITEMS - (rows.itemTotal() - itemsBefore);
        }
    }

    /** One SOLVING at a time, with its RECORD and all that is told of it. */
    private static final class Solver {
        private static final int GOES_ON = 2;
        private static final int WORDS = CASE_ROWS / 64 + 1;
        private static final long HEAVIEST = 1000000000000L;
        private static final long LIGHTER = 1048576;
        private static final long FIRST_RISE = 64;
        private static final int IN_SET = 1;
        private static final int WAS_IN_SET = 2;
        /** The places of tally are those that solved() is asked for. */
        private static final int SAID = 0;
        private static final int STEPS = 1;
        private static final int FORCED = 2;
        private static final int DECIDED = 3;
        private static final int LEARNINGS = 4;
        private static final int ANEWS = 5;
        private static final int WENT = 6;
        private static final int THERE = 7;
        private static final int RECORDED = 8;
        private static final int TOP_LEVEL = 9;

        private final Board board = new Board();
        private final Rows bars = new Rows(MOST_BARRED, MOST_BARRED * MOST_COUNTED);
        private final long[] weights = new long[MOST_NAMES + 1];
        private long rise;
        private final int[] assumed = new int[MOST_ASSUMED];
        private int assumedTotal;
        private final int[] uses = new int[RECORD_ROWS];
        /** SOURCES as bits, WORDS for each ROW of the RECORD, and for each NAME of LEVEL 0. */
        private final long[] sources = new long[RECORD_ROWS * WORDS];
        private final long[] nameSources = new long[(MOST_NAMES + 1) * WORDS];
        private final long[] gathered = new long[WORDS];
        private final int[] tally = new int[10];
        /** The QUARREL, by the places that quarrel() is asked for. */
        private final int[] clash = new int[5];
        private final int[] marks = new int[MOST_NAMES + 1];
        private final int[] fresh = new int[MOST_NAMES + 1];
        private int freshTotal;
        /** LEARNT ROWS by their places in the RECORD: those taken in LEARNING, or those that may go. */
        private final int[] queue = new int[RECORD_ROWS];
        private int queued;
        private int anew;
        private int keep;
        private int since;

        Solver() {
            tally[SAID] = NONE;
            Arrays.fill(clash, NONE);
        }

        // ---- the beginning

        void openBoard(Case court) {
            board.clear(court.names);
            for (int n = 1; n <= court.names; n++) {
                weights[n] = court.weights[n];
            }
            rise = FIRST_RISE;
            assumedTotal = 0;
            anew = court.anew;
            keep = court.keep;
            since = 0;
            Arrays.fill(tally, 0);
            Arrays.fill(clash, NONE);
        }

        void layAll(Rows from) {
            for (int k = 0; k < from.total; k++) {
                board.layRow(from, k);
            }
        }

        void suppose(int v) {
            if (assumedTotal < MOST_ASSUMED) {
                assumed[assumedTotal] = v;
                assumedTotal++;
            }
        }

        void closeBoard() {
            board.barsFrom = board.rows.total;
            board.learntFrom = board.rows.total;
        }

        /** As next() begins: with BARRED ROWS, none ASSUMED. */
        void openNext(Case court) {
            openBoard(court);
            layAll(court.rows);
            closeBoard();
            layAll(bars);
            board.learntFrom = board.rows.total;
        }

        void barTruth(Case court) {
            freshTotal = 0;
            for (int n = 1; n <= court.names; n++) {
                if (court.counted[n]) {
                    pushFresh(board.isTrue(n) ? -n : n);
                }
            }
            bars.push(fresh, 0, freshTotal);
        }

        // ---- the turns

        int go(int steps) {
            int said = GOES_ON;
            for (int given = steps; given >= 0 && said == GOES_ON; given--) {
                int quarrel = board.firstQuarrel();
                int unit = board.firstUnit();
                if (quarrel >= 0 && board.level == 0) {
                    said = refute(quarrel);
                } else if (quarrel >= 0) {
                    said = given > 0 ? learn(quarrel) : SPENT;
                } else if (unit >= 0) {
                    said = given > 0 ? force(unit) : SPENT;
                } else {
                    said = choose(given > 0);
                }
            }
            tally[SAID] = said;
            return said;
        }

        private int choose(boolean given) {
            for (int i = 0; i < assumedTotal; i++) {
                int value = board.valueOf(assumed[i]);
                if (value < 0) {
                    return refuteAssumed(assumed[i]);
                }
                if (value == 0) {
                    return given ? decide(assumed[i]) : SPENT;
                }
            }
            int n = heaviestOpen();
            if (n == 0) {
                return YES;
            }
            return given ? decide(board.latest[n] == 1 ? n : -n) : SPENT;
        }

        private int heaviestOpen() {
            int best = 0;
            for (int n = board.names; n >= 1; n--) {
                if (board.values[n] == 0 && (best == 0 || weights[n] >= weights[best])) {
                    best = n;
                }
            }
            return best;
        }

        private int decide(int v) {
            board.level++;
            tally[TOP_LEVEL] = Math.max(tally[TOP_LEVEL], board.level);
            board.assign(v, -1);
            tally[STEPS]++;
            tally[DECIDED]++;
            return GOES_ON;
        }

        private int force(int slot) {
            int v = board.openItem(slot);
            board.assign(v, slot);
            if (board.level == 0) {
                keepNameSources(Math.abs(v), slot);
            }
            tally[STEPS]++;
            tally[FORCED]++;
            return GOES_ON;
        }

        // ---- LEARNING

        private int learn(int quarrel) {
            int level = board.level;
            int last = walkBack(quarrel, level);
            makeFresh(last);
            if (!board.recordTakes(freshTotal)) {
                return FULL;
            }
            clash[0] = board.numberOf(quarrel);
            clash[1] = level;
            clash[3] = raiseWeights();
            clash[4] = freshTotal;
            for (int i = 0; i < queued; i++) {
                uses[queue[i]]++;
            }
            goBack();
            clash[2] = board.level;
            forgetSome();
            uses[tally[RECORDED]] = 0;
            keepSources(tally[RECORDED]);
            board.lay(fresh, 0, freshTotal);
            tally[STEPS]++;
            tally[LEARNINGS]++;
            tally[THERE]++;
            tally[RECORDED]++;
            return GOES_ON;
        }

        /** Gathers the set and its SOURCES; answers the last ITEM t. */
        private int walkBack(int quarrel, int level) {
            Arrays.fill(marks, 0);
            Arrays.fill(gathered, 0);
            queued = 0;
            int inLevel = takeIn(quarrel, level);
            for (int i = board.trailTotal - 1; i >= 0; i--) {
                int n = Math.abs(board.trail[i]);
                if (marks[n] != IN_SET || board.levels[n] != level) {
                    continue;
                }
                if (inLevel == 1 || board.reasons[n] < 0) {
                    return board.trail[i];
                }
                marks[n] = WAS_IN_SET;
                inLevel += takeIn(board.reasons[n], level) - 1;
            }
            return 0;
        }

        /** Answers how many of the LEVEL came into the set, as the walk ends at the last of these. */
        private int takeIn(int slot, int level) {
            int came = 0;
            gatherRow(slot);
            if (slot >= board.learntFrom && queued < queue.length) {
                queue[queued] = slot - board.learntFrom;
                queued++;
            }
            Rows rows = board.rows;
            for (int i = rows.starts[slot]; i < rows.starts[slot + 1]; i++) {
                int n = Math.abs(rows.items[i]);
                if (board.levels[n] == 0) {
                    gatherName(n);
                } else if (marks[n] == 0) {
                    marks[n] = IN_SET;
                    came += board.levels[n] == level ? 1 : 0;
                }
            }
            return came;
        }

        private void pushFresh(int v) {
            if (freshTotal < fresh.length) {
                fresh[freshTotal] = v;
                freshTotal++;
            }
        }

        private void makeFresh(int last) {
            freshTotal = 0;
            pushFresh(-last);
            for (int i = board.trailTotal - 1; i >= 0; i--) {
                int v = board.trail[i];
                if (v != last && marks[Math.abs(v)] == IN_SET) {
                    pushFresh(-v);
                }
            }
        }

        /** Answers how many NAMES had RISE, which quarrel() tells. */
        private int raiseWeights() {
            int risen = 0;
            boolean tooHeavy = false;
            for (int n = 1; n <= board.names; n++) {
                if (marks[n] != 0) {
                    weights[n] += rise;
                    risen++;
                }
                tooHeavy = tooHeavy || weights[n] > HEAVIEST;
            }
            rise += rise / 8;
            if (tooHeavy) {
                rise = Math.max(rise / LIGHTER, 1);
                for (int n = 1; n <= board.names; n++) {
                    weights[n] /= LIGHTER;
                }
            }
            return risen;
        }

        private void goBack() {
            int level = 0;
            for (int i = 1; i < freshTotal; i++) {
                level = Math.max(level, board.levels[Math.abs(fresh[i])]);
            }
            board.backTo(level);
            since++;
            if (anew > 0 && since >= anew * pace(tally[ANEWS] + 1)) {
                board.backTo(0);
                since = 0;
                tally[ANEWS]++;
            }
        }

        /** The i-th number (from 1) of the row 1 1 2 1 1 2 4 and so on. */
        private static int pace(int i) {
            int rest = i;
            for (int turns = 0; turns < 32 && rest > 0; turns++) {
                int power = 1;
                for (int k = 0; k < 30 && 2 * power <= rest + 1; k++) {
                    power *= 2;
                }
                if (power == rest + 1) {
                    return power / 2;
                }
                rest -= power - 1;
            }
            return 1;
        }

        private void forgetSome() {
            if (keep == 0 || tally[THERE] <= keep) {
                return;
            }
            queued = 0;
            for (int k = 0; k < tally[RECORDED]; k++) {
                int slot = board.learntFrom + k;
                if (isThere(k) && board.rows.size(slot) > 2 && !board.isReason(slot)) {
                    queueByUse(k);
                }
            }
            for (int i = 0; i < queued / 2; i++) {
                board.bury(board.learntFrom + queue[i]);
            }
            tally[WENT] += queued / 2;
            tally[THERE] -= queued / 2;
            for (int k = 0; k < tally[RECORDED]; k++) {
                uses[k] /= 2;
            }
        }

        private boolean isThere(int k) {
            return board.left[board.learntFrom + k] < Board.GONE;
        }

        private void queueByUse(int k) {
            int at = queued;
            while (at > 0 && uses[queue[at - 1]] > uses[k]) {
                queue[at] = queue[at - 1];
                at--;
            }
            queue[at] = k;
            queued++;
        }

        // ---- NO

        private int refute(int quarrel) {
            Arrays.fill(gathered, 0);
            gatherWhole(quarrel);
            freshTotal = 0;
            if (!keepLast()) {
                return FULL;
            }
            Arrays.fill(clash, 0);
            clash[0] = board.numberOf(quarrel);
            return NO;
        }

        private int refuteAssumed(int a) {
            Arrays.fill(marks, 0);
            Arrays.fill(gathered, 0);
            marks[Math.abs(a)] = IN_SET;
            for (int i = board.trailTotal - 1; i >= 0; i--) {
                int n = Math.abs(board.trail[i]);
                if (marks[n] != 0 && board.levels[n] == 0) {
                    gatherName(n);
                } else if (marks[n] != 0 && board.reasons[n] < 0) {
                    marks[n] = WAS_IN_SET;
                } else if (marks[n] != 0) {
                    markReason(board.reasons[n]);
                }
            }
            freshTotal = 0;
            for (int i = 0; i < assumedTotal; i++) {
                int v = assumed[i];
                if (v == a || board.isTrue(v) && marks[Math.abs(v)] == WAS_IN_SET) {
                    pushFresh(-v);
                }
            }
            return keepLast() ? NO : FULL;
        }

        private void markReason(int slot) {
            gatherRow(slot);
            Rows rows = board.rows;
            for (int i = rows.starts[slot]; i < rows.starts[slot + 1]; i++) {
                marks[Math.abs(rows.items[i])] = IN_SET;
            }
        }

        private boolean keepLast() {
            if (!board.recordTakes(freshTotal)) {
                return false;
            }
            board.rows.push(fresh, 0, freshTotal);
            keepSources(tally[RECORDED]);
            tally[RECORDED]++;
            return true;
        }

        // ---- SOURCES

        boolean hasSource(int place, int caseRow) {
            int word = place * WORDS + caseRow / 64;
            return place >= 0 && place < RECORD_ROWS && (sources[word] >> caseRow % 64 & 1) == 1;
        }

        private void gatherRow(int slot) {
            if (slot < board.barsFrom) {
                gathered[slot / 64] |= 1L << slot % 64;
            } else if (slot >= board.learntFrom) {
                gatherFrom(sources, (slot - board.learntFrom) * WORDS);
            }
        }

        private void gatherName(int n) {
            gatherFrom(nameSources, n * WORDS);
        }

        private void gatherFrom(long[] bits, int from) {
            for (int word = 0; word < WORDS; word++) {
                gathered[word] |= bits[from + word];
            }
        }

        private void gatherWhole(int slot) {
            gatherRow(slot);
            Rows rows = board.rows;
            for (int i = rows.starts[slot]; i < rows.starts[slot + 1]; i++) {
                gatherName(Math.abs(rows.items[i]));
            }
        }

        /** The NAME stands in its own REASON: what it had in an earlier SOLVING must not count. */
        private void keepNameSources(int n, int slot) {
            Arrays.fill(gathered, 0);
            for (int word = 0; word < WORDS; word++) {
                nameSources[n * WORDS + word] = 0;
            }
            gatherWhole(slot);
            System.arraycopy(gathered, 0, nameSources, n * WORDS, WORDS);
        }

        private void keepSources(int place) {
            if (place < RECORD_ROWS) {
                System.arraycopy(gathered, 0, sources, place * WORDS, WORDS);
            }
        }
    }
}
