import java.util.LinkedHashMap;
import java.util.Map;
import java.util.function.Supplier;

/** Courts in the middle of their work: much is told, and the latest SOLVING ended in each way that there is. */
final class Scenes {
    private Scenes() {
    }

    /**
     * 8 NAMES and 6 more of the RULES 0 to 4, one of each KIND, laid as ROWS 0 to 24; RULES 5 and 6 bring a QUARREL to be learnt
     * from. Two ROWS are BARRED, two claimed; TAPE has x3, OUT "just most 1(4,-5)". ROWS 0, 1, 2 and 3 of PAPER have 3, 0, 12 and 2
     * numbers, the others are MISSING.
     */
    private static ClauseCourt laid() {
        ClauseCourt c = Hand.withNames(8);
        Hand.paper(c, 0, 1, -2, 3);
        Hand.paper(c, 1);
        Hand.paper(c, 2, 0, 301, -301, Integer.MAX_VALUE, Integer.MIN_VALUE, 1, 2, 3, 4, 5, 6, 7);
        c.clause(0);
        Hand.paper(c, 3, 4, 5);
        c.atMost(3, 1);
        c.put(3, 1, -5);
        c.group(3, 1);
        Hand.paper(c, 39, 1, 6);
        c.parity(39, true);
        Hand.told(c, "|(x1,!x2)");
        Hand.clause(c, 7, 8);
        Hand.clause(c, 7, -8);
        c.drop(39);
        c.weight(2, 7);
        c.weight(6, 3);
        c.begin(3);
        c.forget(9);
        c.assume(3);
        c.counted(1, true);
        c.counted(3, true);
        c.counted(6, true);
        c.next(5000);
        c.next(5000);
        c.claim(0);
        c.claim(3);
        c.check();
        c.ask(1, 1);
        c.print(2);
        c.feed('x' << 8 | '3', 2);
        return c;
    }

    /** CAST is found last, which hardly any other call finds: so status() shows whether a call told it anything. */
    private static ClauseCourt found(ClauseCourt c) {
        c.as(0, 3);
        return c;
    }

    static ClauseCourt spent() {
        ClauseCourt c = laid();
        c.solve(22);
        return found(c);
    }

    static ClauseCourt yes() {
        ClauseCourt c = laid();
        c.solve(5000);
        return found(c);
    }

    /** NO by d): 4 can't be, as one of 4, 5 is at most, and just one of 4, -5. */
    static ClauseCourt no() {
        ClauseCourt c = laid();
        c.assume(4);
        c.solve(5000);
        return found(c);
    }

    /** NO by b). */
    static ClauseCourt lost() {
        ClauseCourt c = laid();
        Hand.clause(c, 4);
        c.solve(5000);
        return found(c);
    }

    static ClauseCourt byNext() {
        ClauseCourt c = laid();
        c.next(5000);
        return found(c);
    }

    /** NO by next(). */
    static ClauseCourt lostByNext() {
        ClauseCourt c = laid();
        Hand.clause(c, 4);
        c.next(5000);
        return found(c);
    }

    static ClauseCourt spentByNext() {
        ClauseCourt c = laid();
        c.next(22);
        return found(c);
    }

    /** The latest SOLVING found no room in the RECORD. */
    static ClauseCourt full() {
        ClauseCourt c = pigeons(8, 7);
        int said = c.solve(5000);
        for (int i = 0; i < 20 && said == ClauseCourt.SPENT; i++) {
            said = c.goOn(5000);
        }
        return found(c);
    }

    /** So many birds can't have a hole each if the holes are fewer; NAME b * holes + h + 1 tells that bird b has hole h. */
    static ClauseCourt pigeons(int birds, int holes) {
        ClauseCourt c = Hand.withNames(birds * holes);
        for (int b = 0; b < birds; b++) {
            int[] row = new int[holes];
            for (int h = 0; h < holes; h++) {
                row[h] = b * holes + h + 1;
            }
            Hand.clause(c, row);
        }
        for (int h = 0; h < holes; h++) {
            int[] row = new int[birds];
            for (int b = 0; b < birds; b++) {
                row[b] = b * holes + h + 1;
            }
            Hand.paper(c, 0, row);
            c.atMost(0, 1);
        }
        return c;
    }

    /** The same of the document's second writing. */
    static PlainCourt plainPigeons(int birds, int holes) {
        PlainCourt c = new PlainCourt();
        c.names(birds * holes);
        c.row(0, holes);
        for (int b = 0; b < birds; b++) {
            for (int h = 0; h < holes; h++) {
                c.put(0, h, b * holes + h + 1);
            }
            c.clause(0);
        }
        c.row(0, birds);
        for (int h = 0; h < holes; h++) {
            for (int b = 0; b < birds; b++) {
                c.put(0, b, b * holes + h + 1);
            }
            c.atMost(0, 1);
        }
        return c;
    }

    /** Those that are small enough to be made again and again, by what they are called. */
    static Map<String, Supplier<ClauseCourt>> all() {
        Map<String, Supplier<ClauseCourt>> scenes = new LinkedHashMap<>();
        scenes.put("SPENT", Scenes::spent);
        scenes.put("YES", Scenes::yes);
        scenes.put("NO by d)", Scenes::no);
        scenes.put("NO by b)", Scenes::lost);
        scenes.put("YES of next()", Scenes::byNext);
        scenes.put("NO of next()", Scenes::lostByNext);
        scenes.put("SPENT of next()", Scenes::spentByNext);
        return scenes;
    }
}
