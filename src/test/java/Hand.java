/** What tests do by hand again and again. */
final class Hand {
    private Hand() {
    }

    static void paper(ClauseCourt c, int r, int... items) {
        c.row(r, items.length);
        for (int i = 0; i < items.length; i++) {
            c.put(r, i, items[i]);
        }
    }

    static int clause(ClauseCourt c, int... items) {
        paper(c, 39, items);
        return c.clause(39);
    }

    static int claim(ClauseCourt c, int... items) {
        paper(c, 39, items);
        return c.claim(39);
    }

    static void feed(ClauseCourt c, String text) {
        for (int i = 0; i < text.length(); i++) {
            c.feed(text.charAt(i), 1);
        }
    }

    static int told(ClauseCourt c, String text) {
        feed(c, text);
        return c.told();
    }

    static ClauseCourt withNames(int n) {
        ClauseCourt c = new ClauseCourt();
        c.names(n);
        return c;
    }

    static String line(ClauseCourt c, int row) {
        StringBuilder text = new StringBuilder();
        int size = c.line(row, -1);
        for (int i = 0; i < size; i++) {
            text.append(i > 0 ? " " : "").append(c.line(row, i));
        }
        return text.toString();
    }

    /** The ROWS that a RULE was laid as. */
    static String laid(ClauseCourt c, int rule) {
        StringBuilder text = new StringBuilder();
        for (int k = 0; c.rows(rule, k) != ClauseCourt.NONE; k++) {
            text.append(k > 0 ? "; " : "").append(line(c, c.rows(rule, k)));
        }
        return text.toString();
    }

    static String proof(ClauseCourt c) {
        StringBuilder text = new StringBuilder();
        for (int k = 0; k < c.about(6); k++) {
            text.append(k > 0 ? ";" : "");
            for (int i = 0; i < c.proof(k, -1); i++) {
                text.append(" ").append(c.proof(k, i));
            }
        }
        return text.toString();
    }

    static String core(ClauseCourt c, int what) {
        StringBuilder text = new StringBuilder();
        for (int k = 0; k < c.core(what); k++) {
            text.append(k > 0 ? " " : "").append(c.coreAt(what, k));
        }
        return text.toString();
    }

    static String out(ClauseCourt c) {
        StringBuilder text = new StringBuilder();
        for (int i = 0; c.out(i) != ClauseCourt.NONE; i++) {
            text.append((char) c.out(i));
        }
        return text.toString();
    }

    static String trace(ClauseCourt c, int latest) {
        StringBuilder text = new StringBuilder();
        for (int i = latest - 1; i >= 0; i--) {
            text.append(c.trace(i)).append(i > 0 ? " " : "");
        }
        return text.toString();
    }

    static String solved(ClauseCourt c) {
        StringBuilder text = new StringBuilder();
        for (int what = 0; what <= 9; what++) {
            text.append(what > 0 ? " " : "").append(c.solved(what));
        }
        return text.toString();
    }

    static String quarrel(ClauseCourt c) {
        StringBuilder text = new StringBuilder();
        for (int what = 0; what <= 4; what++) {
            text.append(what > 0 ? " " : "").append(c.quarrel(what));
        }
        return text.toString();
    }
}
