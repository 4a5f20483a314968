import java.lang.reflect.Method;
import java.util.ArrayList;
import java.util.HashMap;
import java.util.List;
import java.util.Map;
import java.util.Random;

/** Runs of calls, drawn with fixed seeds, on a ClauseCourt and on a PlainCourt: every answer must be the same. */
public final class AgainstPlainCourtTest {
    private static final String SIGNS = "x!&|>j(),0123456789";
    private static final Map<String, Method> METHODS = new HashMap<>();
    private static final Map<String, Method> PLAIN = new HashMap<>();
    private static final List<String> ALL = new ArrayList<>();
    private static long calls;
    private static final Map<String, Integer> SEEN = new HashMap<>();

    private final Random random;
    private final ClauseCourt court = new ClauseCourt();
    private final PlainCourt plain = new PlainCourt();
    private final List<String> told = new ArrayList<>();
    private final long seed;
    private final String flavour;

    private AgainstPlainCourtTest(String flavour, long seed) {
        this.flavour = flavour;
        this.seed = seed;
        random = new Random(seed * 7919 + flavour.hashCode());
    }

    public static void main(String[] args) throws Exception {
        for (Method method : ClauseCourt.class.getDeclaredMethods()) {
            if (java.lang.reflect.Modifier.isPublic(method.getModifiers())) {
                METHODS.put(method.getName(), method);
                PLAIN.put(method.getName(), PlainCourt.class.getDeclaredMethod(method.getName(), method.getParameterTypes()));
                ALL.add(method.getName());
            }
        }
        ALL.sort(String::compareTo);
        int times = args.length > 0 ? Integer.parseInt(args[0]) : 60;
        new AgainstPlainCourtTest("rows of the record", 0).fullRecord(6, 5, 1, 1, true);
        new AgainstPlainCourtTest("items of the record", 0).fullRecord(7, 6, 4, 0, false);
        for (int seed = 0; seed < times; seed++) {
            new AgainstPlainCourtTest("anything", seed).anything();
            new AgainstPlainCourtTest("clauses", seed).clauses(3);
            new AgainstPlainCourtTest("core", seed).core();
            new AgainstPlainCourtTest("pigeons", seed).pigeons();
            new AgainstPlainCourtTest("kinds", seed).kinds();
            new AgainstPlainCourtTest("texts", seed).texts();
            new AgainstPlainCourtTest("counting", seed).counting();
            new AgainstPlainCourtTest("full", seed).full();
            new AgainstPlainCourtTest("walking", seed).walking();
            if (seed % 10 == 0) {
                new AgainstPlainCourtTest("hard", seed).hard();
                new AgainstPlainCourtTest("shrinking", seed).shrinking();
            }
        }
        for (int what = 0; what <= 4; what++) {
            String key = "solve " + new int[] {0, 1, ClauseCourt.SPENT, ClauseCourt.FULL, ClauseCourt.BAD}[what];
            if (SEEN.getOrDefault(key, 0) + SEEN.getOrDefault(key.replace("solve", "goOn"), 0) == 0) {
                throw new IllegalStateException("no run had " + key);
            }
        }
        System.out.println("AgainstPlainCourtTest: " + calls + " calls alike");
        if (args.length > 1) {
            System.out.println(new java.util.TreeMap<>(SEEN));
        }
    }

    private long call(String name, Object... args) throws Exception {
        StringBuilder text = new StringBuilder(name).append('(');
        for (Object arg : args) {
            text.append(arg).append(' ');
        }
        text.append(')');
        long due = ((Number) PLAIN.get(name).invoke(plain, args)).longValue();
        long got = ((Number) METHODS.get(name).invoke(court, args)).longValue();
        calls++;
        told.add(text + " = " + due);
        if (due <= 1 && due >= -1100) {
            SEEN.merge(name + " " + due, 1, Integer::sum);
        }
        if (due != got) {
            System.out.println(flavour + " " + seed + ": " + String.join("\n", told));
            System.out.println("answered " + got + ", due is " + due);
            System.exit(1);
        }
        return due;
    }

    private int upTo(int most) {
        return random.nextInt(most + 1);
    }

    /** Mostly what is fitting, at times what is at its edge or far off. */
    private int near(int low, int high) {
        switch (upTo(24)) {
            case 0:
                return low - 1;
            case 1:
                return high + 1;
            case 2:
                return new int[] {Integer.MIN_VALUE, Integer.MAX_VALUE, -1, 0, 1, -300, 300, 301, -301}[upTo(8)];
            case 3:
                return low;
            case 4:
                return high;
            default:
                return low + random.nextInt(high - low + 1);
        }
    }

    private int anItem(int most) {
        int n = 1 + upTo(Math.max(most, 1) - 1);
        return random.nextBoolean() ? n : -n;
    }

    private void paperRow(int r, int... items) throws Exception {
        call("row", r, items.length);
        for (int i = 0; i < items.length; i++) {
            call("put", r, i, items[i]);
        }
    }

    private int[] someItems(int size, int most) {
        int[] items = new int[size];
        for (int i = 0; i < size; i++) {
            items[i] = anItem(most);
        }
        return items;
    }

    private void feedText(String text) throws Exception {
        int at = 0;
        while (at < text.length()) {
            int n = Math.min(1 + upTo(7), text.length() - at);
            long w = n < 8 ? random.nextLong() << 8 * n : 0;
            long bytes = 0;
            for (int i = 0; i < n; i++) {
                bytes = bytes << 8 | text.charAt(at + i) & 255;
            }
            call("feed", w | bytes, n);
            at += n;
        }
    }

    /** All that can be told of a SOLVING. */
    private void lookAt() throws Exception {
        for (int what = -1; what <= 10; what++) {
            call("solved", what);
        }
        for (int what = -1; what <= 5; what++) {
            call("quarrel", what);
        }
        int names = court.about(0);
        for (int n = 0; n <= names + 1; n++) {
            call("weighs", n);
        }
        for (int n = 0; n <= names + 1; n += 1 + upTo(2)) {
            call("truth", n);
        }
        for (int k = 0; k < 3; k++) {
            int row = 2000 + upTo(Math.max(court.solved(4), 0));
            long size = call("line", row, -1);
            for (int i = 0; i <= size; i++) {
                call("line", row, i);
            }
        }
        lookAtCore();
        for (int rule = 0; rule <= court.about(1); rule += 1 + upTo(3)) {
            call("ask", rule, 0);
        }
        call("status");
    }

    private void lookAtCore() throws Exception {
        for (int what = -1; what <= 2; what++) {
            long size = call("core", what);
            for (int k = -1; k <= size; k++) {
                call("coreAt", what, k);
            }
        }
    }

    private void lookAtProof() throws Exception {
        long rows = call("about", 6);
        for (int k = 0; k <= rows; k += 1 + upTo(2)) {
            long size = call("proof", k, -1);
            for (int i = 0; i <= size; i++) {
                call("proof", k, i);
            }
        }
    }

    private void lookAtRows() throws Exception {
        long rules = call("about", 1);
        for (int rule = 0; rule <= rules; rule++) {
            call("kind", rule);
            for (int kind = -1; kind <= 5; kind++) {
                call("as", rule, kind);
            }
            long n = call("item", rule, -1);
            for (int i = -2; i <= n; i++) {
                call("item", rule, i);
            }
            call("rows", rule, 0);
            call("rows", rule, upTo(40));
            for (int act = 1; act <= 3; act++) {
                call("ask", rule, act);
            }
            lookAtOut(call("print", rule));
        }
        for (int what = 0; what <= 9; what++) {
            call("about", what);
        }
        lookAtOut(call("export"));
        for (int i = 0; i <= 100; i += 1 + upTo(20)) {
            call("trace", i);
        }
        call("digest");
    }

    private void lookAtOut(long size) throws Exception {
        for (int i = -1; i <= size; i++) {
            call("out", i);
        }
    }

    private void lookAtForced() throws Exception {
        call("forced");
        for (int k = -1; k < 6; k++) {
            call("forcedAt", k);
        }
        for (int n = 0; n <= court.about(0) + 1; n += 1 + upTo(4)) {
            call("why", n);
        }
    }

    /** What SOLVING is told, in some runs. */
    private void tellSome(int names) throws Exception {
        if (random.nextBoolean()) {
            call("begin", near(0, upTo(3) == 0 ? 100 : 3));
        }
        if (random.nextBoolean()) {
            call("forget", near(0, upTo(3) == 0 ? 800 : 12));
        }
        for (int i = upTo(6); i > 0; i--) {
            call("weight", near(1, names), near(0, 1000));
        }
        if (random.nextBoolean()) {
            for (int i = upTo(5); i > 0; i--) {
                call("assume", anItem(names));
            }
        }
    }

    private void solveOn() throws Exception {
        long said = call("solve", upTo(2) == 0 ? 5000 : 1 + upTo(60));
        for (int i = 0; i < 12 && said == ClauseCourt.SPENT; i++) {
            if (upTo(3) == 0) {
                lookAt();
            }
            said = call("goOn", upTo(2) == 0 ? 5000 : 1 + upTo(90));
        }
        lookAt();
        if (said == 0) {
            call("take");
            call("check");
            call("refusedAt");
            lookAtProof();
            call("strike", upTo(Math.max(court.about(6) - 1, 0)));
            call("check");
            call("refusedAt");
            if (upTo(3) == 0) {
                call("shrink", 1 + upTo(400));
                lookAtCore();
            }
            call("shrink", near(1, 5000));
            lookAtCore();
            call("least", near(1, 5000));
            lookAtCore();
        }
    }

    private void clauses(int width) throws Exception {
        int names = 4 + upTo(18);
        call("names", names);
        int rows = Math.min(60, (int) (names * (2.5 + 3.5 * random.nextDouble())));
        for (int i = 0; i < rows; i++) {
            paperRow(0, someItems(upTo(30) == 0 ? upTo(2) : upTo(5) == 0 ? 2 : width, names));
            call("clause", 0);
        }
        for (int times = 0; times < 2; times++) {
            tellSome(names);
            lookAtForced();
            solveOn();
            call("free");
        }
        if (upTo(3) == 0) {
            lookAtRows();
        }
    }

    /** Few ROWS, many of them short: NO comes early, with small COREs. */
    private void core() throws Exception {
        int names = 2 + upTo(6);
        call("names", names);
        int rows = 3 + upTo(3 * names);
        for (int i = 0; i < rows; i++) {
            paperRow(1, someItems(1 + upTo(2), names));
            call("clause", 1);
            if (upTo(4) == 0) {
                call("claim", 1);
            }
        }
        for (int i = upTo(6); i > 0; i--) {
            call("assume", anItem(names));
        }
        call("check");
        call("refusedAt");
        lookAtForced();
        solveOn();
        for (int i = 0; i < 20; i++) {
            paperRow(2, someItems(upTo(3), names));
            call("claim", 2);
            call("check");
            call("refusedAt");
        }
        lookAtProof();
    }

    private void pigeons() throws Exception {
        int holes = 2 + upTo(3);
        int birds = holes + 1 + (upTo(5) == 0 ? -1 : 0);
        call("names", birds * holes);
        for (int b = 0; b < birds; b++) {
            int[] row = new int[holes];
            for (int h = 0; h < holes; h++) {
                row[h] = b * holes + h + 1;
            }
            paperRow(0, row);
            call(upTo(3) == 0 ? "group" : "atMost", 0, upTo(4) == 0 ? 0 : holes);
            call("clause", 0);
        }
        for (int h = 0; h < holes; h++) {
            int[] row = new int[birds];
            for (int b = 0; b < birds; b++) {
                row[b] = b * holes + h + 1;
            }
            paperRow(1, row);
            call("atMost", 1, 1);
        }
        tellSome(birds * holes);
        solveOn();
        lookAtForced();
    }

    /** Many thousand STEPS: weights are cut, the RECORD gets full. */
    private void hard() throws Exception {
        if (upTo(2) == 0) {
            call("names", 36);
            for (int i = 0; i < 36; i++) {
                paperRow(0, someItems(4, 36));
                call("parity", 0, random.nextBoolean());
            }
        } else {
            layPigeons(6 + upTo(1), 5 + upTo(1));
        }
        tellSome(30);
        if (random.nextBoolean()) {
            call("free");
            call("begin", upTo(5));
            call("forget", upTo(3));
        }
        long said = call("solve", 5000);
        for (int i = 0; i < 8 && said == ClauseCourt.SPENT; i++) {
            said = call("goOn", 5000);
        }
        lookAt();
        call("goOn", 10);
        call("take");
        call("check");
    }

    /** The first has short ROWS, most of which go: 800 of them ahead of 8,000 ITEMS, behind 500 ROWS of the CASE. */
    private void fullRecord(int birds, int holes, int begin, int forget, boolean byRows) throws Exception {
        layPigeons(birds, holes);
        if (byRows) {
            fillRows();
        }
        call("begin", begin);
        call("forget", forget);
        call("weight", court.about(0), 1000);
        for (int times = 0; times < 2; times++) {
            long said = call("solve", 5000);
            while (said == ClauseCourt.SPENT) {
                said = call("goOn", 5000);
            }
            lookAt();
            int items = 0;
            for (int k = 0; k < court.solved(4); k++) {
                items += court.line(2000 + k, -1);
            }
            boolean full = byRows ? court.solved(8) == 800 : items == 8000;
            if (said != ClauseCourt.FULL || !full) {
                throw new IllegalStateException("the RECORD is not full to its end");
            }
        }
    }

    /** ROWS that don't meddle with the others, until there are 500. */
    private void fillRows() throws Exception {
        int names = (int) call("names", 12);
        int[] last = new int[12];
        for (int i = 0; i < 12; i++) {
            last[i] = names - i;
        }
        paperRow(0, last);
        call("group", 0, 12);
        paperRow(0, 1, -1);
        while (court.about(2) < 500) {
            call("clause", 0);
        }
    }

    /** A few STEPS at a time, with all QUARRELS looked at. */
    private void walking() throws Exception {
        if (random.nextBoolean()) {
            layPigeons(5, 4);
        } else {
            call("names", 16);
            for (int i = 0; i < 60; i++) {
                paperRow(0, someItems(3, 16));
                call("clause", 0);
            }
        }
        tellSome(16);
        call("forget", upTo(4));
        long said = call("solve", 1 + upTo(30));
        for (int i = 0; i < 400 && said == ClauseCourt.SPENT; i++) {
            said = call("goOn", 1 + upTo(5));
            for (int what = 0; what <= 4; what++) {
                call("quarrel", what);
            }
            for (int what = 0; what <= 9; what++) {
                call("solved", what);
            }
            call("line", 2000 + court.solved(4) - 1, upTo(4) - 1);
        }
        lookAt();
        for (int most : new int[] {0, 3}) {
            call("forget", most);
            call("solve", 5000);
            lookAt();
        }
    }

    /** ITEMS that are ASSUMED make it easy enough for shrink() to come to its end, with much LEARNING and FORGETTING in it. */
    private void shrinking() throws Exception {
        layPigeons(5, 4);
        paperRow(0, someItems(3, 20));
        call("parity", 0, random.nextBoolean());
        call("begin", upTo(2));
        call("forget", 1 + upTo(4));
        call("assume", 1);
        call("assume", -2);
        call("assume", upTo(1) == 0 ? 6 : -12);
        call("solve", 5000);
        call("shrink", 5000);
        lookAtCore();
        call("shrink", 5000);
        lookAt();
    }

    private void layPigeons(int birds, int holes) throws Exception {
        call("names", birds * holes);
        for (int b = 0; b < birds; b++) {
            call("row", 0, holes);
            for (int h = 0; h < holes; h++) {
                call("put", 0, h, b * holes + h + 1);
            }
            call("clause", 0);
        }
        for (int h = 0; h < holes; h++) {
            call("row", 1, birds);
            for (int b = 0; b < birds; b++) {
                call("put", 1, b, b * holes + h + 1);
            }
            call("atMost", 1, 1);
        }
    }

    private void kinds() throws Exception {
        int names = 3 + upTo(9);
        call("names", names);
        int rules = 1 + upTo(5);
        for (int i = 0; i < rules; i++) {
            paperRow(0, someItems(upTo(6), names));
            switch (upTo(4)) {
                case 0:
                    call("clause", 0);
                    break;
                case 1:
                    call("atMost", 0, near(0, 6));
                    break;
                case 2:
                    call("group", 0, near(0, 6));
                    break;
                case 3:
                    call("parity", 0, random.nextBoolean());
                    break;
                default:
                    feedText(aText(names, 2));
                    call("told");
                    break;
            }
        }
        lookAtRows();
        lookAtForced();
        tellSome(names);
        solveOn();
        lookAtRows();
    }

    private String aText(int names, int deep) {
        int choice = upTo(6);
        if (deep == 0 || choice <= 1) {
            String zeros = new String[] {"", "", "0", "00"}[upTo(3)];
            return "x" + (zeros.length() == 2 && names > 9 ? "" : zeros) + (1 + upTo(names - 1));
        }
        if (choice == 2) {
            return "!" + aText(names, deep);
        }
        char sign = SIGNS.charAt(upTo(3) + 2);
        int parts = sign == '>' ? 2 : 1 + upTo(upTo(4) == 0 ? 8 : 3);
        StringBuilder text = new StringBuilder().append(sign).append('(');
        for (int i = 0; i < parts; i++) {
            text.append(i > 0 ? "," : "").append(aText(names, deep - 1));
        }
        return text.append(')').toString();
    }

    private void texts() throws Exception {
        int names = 2 + upTo(14);
        call("names", names);
        for (int i = 0; i < 40; i++) {
            String text = aText(upTo(9) == 0 ? names + 1 : names, 1 + upTo(upTo(3) == 0 ? 9 : 2));
            for (int tries = 0; tries < 20 && text.length() > 62; tries++) {
                text = aText(names, 1 + upTo(3));
            }
            text = text.substring(0, Math.min(text.length(), 70));
            if (upTo(2) > 0) {
                StringBuilder spoilt = new StringBuilder(text);
                int at = upTo(spoilt.length() - 1);
                char sign = upTo(20) == 0 ? (char) upTo(255) : SIGNS.charAt(upTo(SIGNS.length() - 1));
                switch (upTo(3)) {
                    case 0:
                        spoilt.setCharAt(at, sign);
                        break;
                    case 1:
                        spoilt.insert(at, sign);
                        break;
                    case 2:
                        spoilt.deleteCharAt(at);
                        break;
                    default:
                        spoilt.setLength(at);
                        break;
                }
                text = spoilt.toString();
            }
            feedText(text);
            call("told");
            call("about", 8);
            call("status");
        }
        lookAtRows();
        solveOn();
    }

    private void counting() throws Exception {
        int names = 1 + upTo(8);
        call("names", names);
        for (int i = upTo(4); i > 0; i--) {
            paperRow(0, someItems(1 + upTo(3), names));
            if (upTo(3) == 0) {
                call("parity", 0, random.nextBoolean());
            } else {
                call("clause", 0);
            }
        }
        tellSome(names);
        for (int n = 1; n <= names; n++) {
            call("counted", n, upTo(3) > 0);
        }
        for (int i = 0; i < 70; i++) {
            long said = call("next", upTo(5) == 0 ? 1 + upTo(9) : 1000);
            if (upTo(9) == 0) {
                lookAt();
            }
            if (upTo(19) == 0) {
                call("count", near(1, 64), near(1, 5000));
                call("count", near(1, 64), 1 + upTo(60));
            }
            if (upTo(30) == 0) {
                call("solve", 300);
                lookAt();
            }
            if (upTo(60) == 0) {
                call("unbar");
            }
            if (said == 0 && upTo(2) == 0) {
                break;
            }
        }
        long bars = call("about", 5);
        for (int k = 0; k <= bars; k++) {
            long size = call("line", 1000 + k, -1);
            for (int i = 0; i <= size; i++) {
                call("line", 1000 + k, i);
            }
        }
        call("digest");
        call("unbar");
        lookAt();
    }

    private void full() throws Exception {
        call("names", 12 + upTo(3) * upTo(70));
        for (int i = 0; i < 64; i++) {
            int kind = upTo(upTo(2) == 0 ? 3 : 0);
            paperRow(0, someItems(upTo(12), Math.min(court.about(0), 40)));
            if (kind == 0) {
                call("clause", 0);
            } else if (kind == 1) {
                call("atMost", 0, upTo(12));
            } else if (kind == 2) {
                call("group", 0, upTo(12));
            } else {
                call("parity", 0, random.nextBoolean());
            }
            if (upTo(9) == 0) {
                call("names", upTo(9));
            }
            for (int what = 0; what <= 3; what++) {
                call("about", what);
            }
        }
        call("digest");
        call("solve", 300);
        lookAt();
        lookAtForced();
    }

    private void anything() throws Exception {
        call("names", upTo(5) == 0 ? near(0, 300) : 1 + upTo(8));
        for (int i = 0; i < 400; i++) {
            String name = ALL.get(upTo(ALL.size() - 1));
            Class<?>[] types = METHODS.get(name).getParameterTypes();
            Object[] args = new Object[types.length];
            for (int k = 0; k < types.length; k++) {
                args[k] = anArgument(name, k, types[k]);
            }
            if (name.equals("told") && random.nextBoolean()) {
                call("wipe");
                feedText(aText(Math.max(1, Math.min(court.about(0), 9)), 2));
            }
            call(name, args);
            if (upTo(3) == 0) {
                int r = upTo(3);
                paperRow(r, someItems(upTo(40) == 0 ? 0 : upTo(6) == 0 ? 1 : 2 + upTo(2), Math.min(court.about(0), 12)));
                call(new String[] {"clause", "claim"}[upTo(1)], r);
            }
            if (upTo(5) == 0) {
                call("solve", 1 + upTo(40));
            }
            call("status");
        }
        call("digest");
        lookAt();
    }

    private Object anArgument(String name, int k, Class<?> type) {
        if (type == boolean.class) {
            return random.nextBoolean();
        }
        if (type == long.class) {
            return random.nextLong();
        }
        int names = Math.max(court.about(0), 1);
        switch (name) {
            case "names":
                return near(0, upTo(9) == 0 ? 300 : 2);
            case "row":
            case "put":
            case "get":
            case "cut":
                return k == 0 ? near(0, 3) : k == 1 ? near(-1, 6) : near(-names, names);
            case "copy":
                return k == 0 || k == 2 ? near(0, 3) : near(0, 4);
            case "clause":
            case "atMost":
            case "group":
            case "parity":
            case "claim":
            case "drop":
                return k == 0 ? near(0, 3) : near(0, 4);
            case "feed":
                return near(1, 8);
            case "assume":
                return near(-names, names);
            case "weight":
            case "weighs":
            case "truth":
            case "why":
            case "counted":
                return k == 0 ? near(1, names) : near(0, 1000);
            case "solve":
            case "goOn":
            case "shrink":
            case "least":
            case "next":
                return near(1, upTo(1) == 0 ? 5000 : 20);
            case "count":
                return k == 0 ? near(1, 64) : near(1, 300);
            case "line":
                return k == 0 ? new int[] {0, 1000, 2000}[upTo(2)] + near(0, 5) : near(-1, 4);
            case "forget":
            case "begin":
                return near(0, 4);
            default:
                return near(k == 0 ? 0 : -1, 5);
        }
    }
}
