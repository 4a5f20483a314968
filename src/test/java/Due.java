/** Compares answers with those that are due, and ends a test. */
final class Due {
    private final String test;
    private int wrong;
    private int asked;

    Due(String test) {
        this.test = test;
    }

    void is(String call, long due, long got) {
        asked++;
        if (got != due) {
            wrong++;
            System.out.println(test + ": " + call + " answered " + got + ", due is " + due);
        }
    }

    void is(String call, String due, String got) {
        asked++;
        if (!got.equals(due)) {
            wrong++;
            System.out.println(test + ": " + call + " told " + got + ", due is " + due);
        }
    }

    void end() {
        System.out.println(test + ": " + asked + " answers, " + wrong + " wrong");
        if (wrong > 0) {
            System.exit(1);
        }
    }
}
