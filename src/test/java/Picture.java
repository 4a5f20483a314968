/** All that a court can be asked for, as pages of text; a page may change the court, so each wants one of its own. */
final class Picture {
    static final int PAGES = 7;
    private static final int MOST = 20;

    private final ClauseCourt c;
    private final StringBuilder text = new StringBuilder();

    private Picture(ClauseCourt c) {
        this.c = c;
    }

    static String of(ClauseCourt c, int page) {
        Picture picture = new Picture(c);
        switch (page) {
            case 0:
                picture.whole();
                break;
            case 1:
                picture.solving();
                break;
            case 2:
                picture.coreAndProof();
                break;
            case 3:
                picture.goingOn();
                break;
            case 4:
                picture.tape();
                break;
            case 5:
                picture.counting();
                break;
            default:
                picture.rules();
                break;
        }
        return picture.text.toString();
    }

    private void tell(String what, long answer) {
        text.append(what).append('=').append(answer).append(' ');
    }

    private void tell(String what, String answer) {
        text.append(what).append('=').append(answer).append(' ');
    }

    private void whole() {
        tell("digest", c.digest());
        for (int what = 0; what <= 9; what++) {
            tell("about " + what, c.about(what));
        }
        tell("refusedAt", c.refusedAt());
        for (int i = 0; i < MOST; i++) {
            tell("trace " + i, c.trace(i));
        }
        tell("trace 99", c.trace(99));
        for (int i = 0; i < 3 * MOST; i++) {
            tell("out " + i, c.out(i));
        }
        tell("forced", c.forced());
    }

    private void solving() {
        figures();
        for (int n = 1; n <= MOST; n++) {
            tell("truth " + n, c.truth(n));
            tell("why " + n, c.why(n));
        }
        for (int k = 0; k < 4; k++) {
            tell("BARRED " + k, Hand.line(c, 1000 + k));
            tell("LEARNT " + k, Hand.line(c, 2000 + k));
        }
    }

    private void figures() {
        tell("solved", Hand.solved(c));
        tell("quarrel", Hand.quarrel(c));
        for (int n = 1; n <= MOST; n++) {
            tell("weighs " + n, c.weighs(n));
        }
    }

    private void coreAndProof() {
        for (int what = 0; what <= 1; what++) {
            tell("core " + what, c.core(what));
            for (int k = 0; k < MOST; k++) {
                tell("coreAt", c.coreAt(what, k));
            }
        }
        proof();
        tell("check", c.check());
        tell("refusedAt", c.refusedAt());
        tell("take", c.take());
        proof();
    }

    private void proof() {
        for (int k = 0; k < 6; k++) {
            for (int i = -1; i < 4; i++) {
                tell("proof " + k, c.proof(k, i));
            }
        }
    }

    private void goingOn() {
        tell("goOn", c.goOn(5000));
        figures();
        for (int n = 1; n <= MOST; n++) {
            tell("truth " + n, c.truth(n));
        }
    }

    private void tape() {
        tell("told", c.told());
        for (int what = 0; what <= 9; what++) {
            tell("about " + what, c.about(what));
        }
        tell("print", c.print(c.about(1) - 1));
        tell("OUT", Hand.out(c));
        tell("digest", c.digest());
    }

    private void counting() {
        tell("count", c.count(64, 5000));
        tell("next", c.next(5000));
        figures();
        tell("unbar", c.unbar());
        tell("solve", c.solve(5000));
        figures();
    }

    private void rules() {
        for (int rule = 0; rule < 8; rule++) {
            tell("kind", c.kind(rule));
            tell("item", c.item(rule, -1));
            tell("item", c.item(rule, 0));
            tell("rows", c.rows(rule, 0));
            for (int act = 0; act < 4; act++) {
                tell("ask", c.ask(rule, act));
            }
            tell("print", c.print(rule));
        }
        for (int r = 0; r < 40; r++) {
            tell("get", c.get(r, -1));
        }
    }
}
