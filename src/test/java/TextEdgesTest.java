import java.util.Arrays;
import java.util.Map;
import java.util.function.Supplier;

/** TEXTS and promise 15, sentence by sentence: each FAULT, each number, and what a TEXT is laid as. */
public final class TextEdgesTest {
    private static final int FULL = ClauseCourt.FULL;
    private static final int NOTHING = ClauseCourt.NOTHING;
    private static final int BEYOND = ClauseCourt.BEYOND;
    private static final String PART = "x!&|j>";
    private static final String DIGIT = "0123456789";
    private static final String EIGHT = "x001,x002,x003,x004,x005,x006,x007,x008";
    private static final Edge edge = new Edge("TextEdgesTest");

    public static void main(String[] args) {
        emptyWhateverComes();
        bytesThatCanStand();
        numbers();
        denials();
        parts();
        thens();
        open();
        onePart();
        endsTooEarly();
        faultsChangeNothing();
        numbersLookedFor();
        faultAheadOfNumbers();
        laidRows();
        textsAreSo();
        itemsOnce();
        namesMet();
        itemsOfTexts();
        edge.end();
    }

    private static long told(ClauseCourt c, String text) {
        for (int i = 0; i < text.length(); i += 8) {
            long w = 0;
            String part = text.substring(i, Math.min(i + 8, text.length()));
            for (char sign : part.toCharArray()) {
                w = w << 8 | sign;
            }
            c.feed(w, part.length());
        }
        return c.told();
    }

    private static void emptyWhateverComes() {
        edge.of("15", "TAPE is a TEXT, and empty then, whatever comes");
        String[] texts = {"x1", "x", "x9", "x301", "&(x1,x2)", "", "?"};
        for (String text : texts) {
            ClauseCourt c = Hand.withNames(3);
            told(c, text);
            edge.is("about(8) behind " + text, 0, c.about(8));
            edge.is("told() once more", -2000, c.told());
        }
        ClauseCourt c = Hand.withNames(300);
        edge.is("FULL", FULL, told(c, "&(x1,x2)"));
        edge.is("about(8)", 0, c.about(8));
    }

    /**
     * Behind each beginning, each byte of 256: it is the FAULT, or what can stand there and the TEXT goes on. Behind the eighth PART
     * a , can stand, as it is the ninth PART's first byte that cannot.
     */
    private static void bytesThatCanStand() {
        edge.of("15", "the place of the first byte that cannot stand there");
        stand("", PART);
        stand("!", PART);
        stand("!!", PART);
        stand("x", DIGIT);
        stand("x1", DIGIT);
        stand("x12", DIGIT);
        stand("x123", "");
        stand("!x123", "");
        stand("&", "(");
        stand("|", "(");
        stand("j", "(");
        stand(">", "(");
        stand("&(", PART);
        stand("|(", PART);
        stand("j(", PART);
        stand(">(", PART);
        stand("&(!", PART);
        stand("&(x", DIGIT);
        stand("&(x1", DIGIT + ",)");
        stand("|(x12", DIGIT + ",)");
        stand("j(x123", ",)");
        stand("&(x1,", PART);
        stand("&(x1,x2", DIGIT + ",)");
        stand("&(x1)", "");
        stand("!&(x1)", "");
        stand(">(x1", DIGIT + ",");
        stand(">(x123", ",");
        stand(">(x1,", PART);
        stand(">(x1,x2", DIGIT + ")");
        stand(">(x1,x123", ")");
        stand(">(&(x1),x123", ")");
        stand(">(x1,x2)", "");
        stand("&(>(x1,x2)", ",)");
        stand(">(&(x1)", ",");
        stand("&(" + EIGHT, ",)");
        stand("|(" + EIGHT, ",)");
        stand("j(" + EIGHT, ",)");
        stand("j(" + EIGHT + ",", "");
        stand("&(&(&(&(&(&(&(&(", PART);
        stand("&(&(&(&(&(&(&(&", "(");
        stand("&(&(&(&(&(&(&(&(&", "");
        stand("&(&(&(&(&(&(&(&(x123", ",)");
        stand("&(&(&(&(&(&(&(&(x1),&", "(");
    }

    private static void stand(String begun, String can) {
        for (int b = 0; b < 256; b++) {
            ClauseCourt c = Hand.withNames(3);
            long said = told(c, begun + (char) b);
            boolean stood = said != -2000 - begun.length();
            edge.is("byte " + b + " behind " + begun, can.indexOf(b) >= 0 ? 1 : 0, stood ? 1 : 0);
            if (stood && said <= -2000) {
                edge.is("byte " + b + " behind " + begun + ": it ends too early", -2001 - begun.length(), said);
            }
        }
    }

    private static void fault(String text, int place) {
        ClauseCourt c = Hand.withNames(9);
        long digest = c.digest();
        edge.is(text, -2000 - place, told(c, text));
        edge.is("status() behind " + text, -2000 - place, c.status());
        edge.is("digest() behind " + text, digest, c.digest());
        edge.is("RULES behind " + text, 0, c.about(1));
        edge.is("TAPE behind " + text, 0, c.about(8));
        edge.is("the next TEXT behind " + text, 0, told(c, "x2"));
        edge.is("it is read anew", "2", Hand.laid(c, 0));
    }

    private static void well(String text) {
        ClauseCourt c = Hand.withNames(text.equals("x300") ? 300 : 100);
        edge.is(text, 0, told(c, text));
        edge.is("status() behind " + text, 0, c.status());
        c.print(0);
        edge.is("its text", text, Hand.out(c));
    }

    private static void numbers() {
        edge.of("15", "x and a number of 1 to 3 digits (0s in front may be); the fourth digit");
        well("x1");
        well("x01");
        well("x001");
        well("x10");
        well("x010");
        well("x300");
        fault("x", 1);
        fault("x0001", 4);
        fault("x1000", 4);
        fault("x0000", 4);
        fault("!x0001", 5);
        fault("&(x0001)", 6);
        fault("x-1", 1);
        fault("x+1", 1);
        fault("X1", 0);
        fault("1", 0);
        ClauseCourt c = Hand.withNames(12);
        told(c, "x012");
        edge.is("0s in front", "12", Hand.laid(c, 0));
        told(c, "x12");
        edge.is("none in front", "12", Hand.laid(c, 1));
        told(c, "x001");
        edge.is("two in front", "1", Hand.laid(c, 2));
    }

    private static void denials() {
        edge.of("15", "! PART (not so)");
        well("!x1");
        well("!!x1");
        well("!".repeat(58) + "x1");
        well("!&(!x1)");
        fault("!", 1);
        fault("!".repeat(60), 60);
        fault("x!1", 1);
        fault("x1!", 2);
        ClauseCourt c = Hand.withNames(2);
        String[] texts = {"!x2", "!!x2", "!!!x2", "!!!!x2"};
        String[] rows = {"-2", "2", "-2", "2"};
        for (int i = 0; i < texts.length; i++) {
            told(c, texts[i]);
            edge.is(texts[i], rows[i], Hand.laid(c, i));
        }
        told(c, "!&(x1)");
        edge.is("!&(x1)", "1 -3; 3 -1; -3", Hand.laid(c, 4));
        told(c, "&(!!&(x1))");
        edge.is("&(!!&(x1))", "1 -4; 4 -1; 4 -5; 5 -4; 5", Hand.laid(c, 5));
        told(c, "&(!x1,x2)");
        edge.is("! is of the next PART alone", "-1 -6; 2 -6; 6 1 -2; 6", Hand.laid(c, 6));
        told(c, "|(!&(x1),x2)");
        edge.is("! is of the next PART alone", "1 -7; 7 -1; 7 8; -2 8; -7 2 -8; 8", Hand.laid(c, 7));
    }

    private static void parts() {
        edge.of("15", "1 to 8 PARTS each with , between; the ninth PART's first byte");
        for (String sign : new String[] {"&", "|", "j"}) {
            well(sign + "(x1)");
            well(sign + "(" + EIGHT + ")");
            fault(sign + "()", 2);
            fault(sign + "(,x1)", 2);
            fault(sign + "(x1,)", 5);
            fault(sign + "(x1,,x2)", 5);
            fault(sign + "(" + EIGHT + ",x009)", 42);
            fault(sign + "(" + EIGHT + ",!x009)", 42);
            fault(sign + "(" + EIGHT + ",&(x1))", 42);
            fault(sign + "(" + EIGHT + ",)", 42);
            fault(sign + "(x1,x2,x3,x4,x5,x6,x7,x8,x9)", 26);
        }
        well("&(|(x1,x2,x3,x4,x5,x6,x7,x8),x2,x3,x4,x5,x6,x7,x8)");
        fault("&(x1,x2,x3,x4,x5,x6,x7,|(x1,x2),x9)", 32);
        fault("&(x1,|(x1,x2,x3,x4,x5,x6,x7,x8,x9))", 31);
        edge.of("15", "No blanks");
        fault(" x1", 0);
        fault("x1 ", 2);
        fault("x 1", 1);
        fault("& (x1)", 1);
        fault("&( x1)", 2);
        fault("&(x1 )", 4);
        fault("&(x1, x2)", 5);
    }

    private static void thens() {
        edge.of("15", "> ( PART , PART ); the , behind the second PART of >");
        well(">(x1,x2)");
        well(">(>(x1,x2),>(x3,x4))");
        fault(">()", 2);
        fault(">(x1)", 4);
        fault(">(x1,)", 5);
        fault(">(x1,x2,x3)", 7);
        fault(">(x1,x2,)", 7);
        fault(">(x1,&(x2,x3),x4)", 13);
        fault("&(>(x1),x2)", 6);
    }

    private static void open() {
        edge.of("15", "at most 8 ( open at once; the ninth ( open");
        well("&(&(&(&(&(&(&(&(x1))))))))");
        well("&(|(j(>(x1,&(|(j(&(x1))))))))");
        well("&(&(x1),&(x1),&(x1),&(x1),&(x1),&(x1),&(x1),&(x1))");
        well("&(&(&(&(&(&(&(&(x1),&(x2))))))))");
        fault("&(&(&(&(&(&(&(&(&(x1)))))))))", 17);
        fault("&(&(&(&(&(&(&(&(|", 17);
        fault("&(&(&(&(&(&(&(&(!>(x1,x2)))))))))", 18);
        fault("&(&(&(&(&(&(&(&(x1,j(x2)))))))))", 20);
    }

    private static void onePart() {
        edge.of("15", "It is one PART");
        fault("x1x2", 2);
        fault("x1,x2", 2);
        fault("x1)", 2);
        fault("x1(", 2);
        fault("x1&(x2)", 2);
        fault("&(x1),x2", 5);
        fault("&(x1))", 5);
        fault("&(x1)&(x2)", 5);
        fault("(x1)", 0);
        fault("x001x", 4);
    }

    private static void endsTooEarly() {
        edge.of("15", "its length, if it ends too early");
        fault("", 0);
        fault("!", 1);
        fault("x", 1);
        fault("&", 1);
        fault("&(", 2);
        fault("&(x", 3);
        fault("&(x1", 4);
        fault("&(x123", 6);
        fault("&(x1,", 5);
        fault("&(&(x1)", 7);
        fault(">(x1", 4);
        fault(">(x1,", 5);
        fault(">(x1,x2", 7);
        fault("&(" + EIGHT, 41);
        fault("&(" + EIGHT + ",", 42);
        fault("&(&(&(&(&(&(&(&(&", 17);
        fault("!".repeat(58) + "&(", 60);
        fault("!".repeat(59) + "x", 60);
    }

    private static ClauseCourt wiped(Supplier<ClauseCourt> scene) {
        ClauseCourt c = scene.get();
        c.wipe();
        return c;
    }

    /** TAPE is empty ahead of these and behind them: so nothing else may have changed. */
    private static void refused(String text, int code) {
        for (Map.Entry<String, Supplier<ClauseCourt>> scene : Scenes.all().entrySet()) {
            edge.refused("told() of " + text + " behind " + scene.getKey(), code, () -> wiped(scene.getValue()), c -> told(c, text));
        }
    }

    private static void faultsChangeNothing() {
        edge.of("15", "-2000 less its FAULT; nothing is changed then but status()");
        refused("", -2000);
        refused("x", -2001);
        refused("&(x1,x2", -2007);
        refused("&(&(x1),|(x2),?)", -2014);
        edge.refused("told() of a new one", -2000, ClauseCourt::new, ClauseCourt::told);
    }

    private static void numbersLookedFor() {
        edge.of("15", "BEYOND, NOTHING: its numbers, as they come");
        refused("x0", BEYOND);
        refused("x000", BEYOND);
        refused("x301", BEYOND);
        refused("x999", BEYOND);
        refused("!x301", BEYOND);
        refused("x15", NOTHING);
        refused("x300", NOTHING);
        refused("!!x15", NOTHING);
        refused("&(x1,x15,x301)", NOTHING);
        refused("&(x1,x301,x15)", BEYOND);
        refused("&(x1,|(x2,x0),x15)", BEYOND);
        refused(">(j(x15),x0)", NOTHING);
        edge.of("15", "a NAME that there is not (yet): NOTHING");
        refused("|(&(x1,x2),x15)", NOTHING);
        ClauseCourt c = Hand.withNames(14);
        edge.is("x15 of 14", NOTHING, told(c, "x15"));
        edge.is("x14 of 14", 0, told(c, "x14"));
        c.names(1);
        edge.is("x15 of 15", 1, told(c, "x15"));
    }

    private static void faultAheadOfNumbers() {
        edge.of("15", "-2000 less its FAULT; BEYOND, NOTHING: its numbers; FULL");
        refused("x15,x1", -2003);
        refused("&(x301,x0", -2009);
        edge.refused("a FAULT ahead of FULL", -2001, () -> Hand.withNames(300), c -> told(c, "&"));
        edge.refused("BEYOND ahead of FULL", BEYOND, () -> Hand.withNames(300), c -> told(c, "&(x301)"));
        edge.refused("NOTHING ahead of FULL", NOTHING, TextEdgesTest::sixty, c -> told(c, "x3"));
        edge.refused("FULL", FULL, TextEdgesTest::sixty, c -> told(c, "x2"));
        edge.refused("FULL of NAMES", FULL, () -> Hand.withNames(299), c -> told(c, "&(&(x1))"));
    }

    private static ClauseCourt sixty() {
        ClauseCourt c = Hand.withNames(2);
        c.row(0, 0);
        for (int i = 0; i < 60; i++) {
            c.clause(0);
        }
        return c;
    }

    private static void laid(String text, String rows) {
        ClauseCourt c = Hand.withNames(8);
        edge.is(text, 0, told(c, text));
        edge.is(text + " is laid as", rows, Hand.laid(c, 0));
    }

    private static void laidRows() {
        edge.of("15", "& : pi -z for each i; then z -p1 .. -pm");
        laid("&(x1)", "1 -9; 9 -1; 9");
        laid("&(x1,!x2,x3)", "1 -9; -2 -9; 3 -9; 9 -1 2 -3; 9");
        edge.of("15", "| : -pi z for each i; then p1 .. pm -z");
        laid("|(x1)", "-1 9; 1 -9; 9");
        laid("|(x1,!x2,x3)", "-1 9; 2 9; -3 9; 1 -2 3 -9; 9");
        edge.of("15", "> : p1 z; -p2 z; -p1 p2 -z");
        laid(">(x1,x2)", "1 9; -2 9; -1 2 -9; 9");
        laid(">(!x1,!x2)", "-1 9; 2 9; 1 -2 -9; 9");
        edge.of("15", "j : p1 .. pm -z; for each i, each h above i: -pi -ph -z; then for each i: z, -pi, and all others");
        laid("j(x1)", "1 -9; 9 -1; 9");
        laid("j(x1,x2)", "1 2 -9; -1 -2 -9; 9 -1 2; 9 -2 1; 9");
        laid("j(x3,!x1,x2)", "3 -1 2 -9; -3 1 -9; -3 -2 -9; 1 -2 -9; 9 -3 -1 2; 9 1 3 2; 9 -2 3 -1; 9");
        edge.of("15", "At last the whole PART's ITEM");
        laid("x8", "8");
        laid("!j(x1)", "1 -9; 9 -1; -9");
        ClauseCourt c = Hand.withNames(8);
        told(c, "j(" + EIGHT + ")");
        edge.is("j of 8 ROWS", 1 + 28 + 8 + 1, c.about(2));
        edge.is("j of 8 ITEMS", 9 + 3 * 28 + 9 * 8 + 1, c.about(3));
    }

    /** Each TEXT with those TRUTHS of 1, 2, 3 (1, 2 and 4 added) under which it is so. */
    private static void textsAreSo() {
        edge.of("15", "(not so), (all are so), (some), (just one), (the first is not so or the second is)");
        so("x1", 1, 3, 5, 7);
        so("!x1", 0, 2, 4, 6);
        so("!!x1", 1, 3, 5, 7);
        so("&(x1,x2,x3)", 7);
        so("&(x2)", 2, 3, 6, 7);
        so("|(x1,x2,x3)", 1, 2, 3, 4, 5, 6, 7);
        so("!|(x1,x2,x3)", 0);
        so("j(x1,x2,x3)", 1, 2, 4);
        so("!j(x1,x2,x3)", 0, 3, 5, 6, 7);
        so("j(x1,x1,x2)", 2, 6);
        so("j(x1)", 1, 3, 5, 7);
        so(">(x1,x2)", 0, 2, 3, 4, 6, 7);
        so("!>(x1,x2)", 1, 5);
        so(">(x1,!x1)", 0, 2, 4, 6);
        so("&(!x1,>(x2,x3))", 0, 4, 6);
        so("|(&(x1,x2),j(x2,x3))", 2, 3, 4, 5, 7);
    }

    private static void so(String text, int... truths) {
        for (int all = 0; all < 8; all++) {
            int one = all;
            boolean is = Arrays.stream(truths).anyMatch(t -> t == one);
            ClauseCourt c = Hand.withNames(3);
            told(c, text);
            for (int n = 1; n <= 3; n++) {
                c.assume((all >> n - 1 & 1) == 1 ? n : -n);
            }
            edge.is(text + " under " + all, is ? 1 : 0, c.solve(100));
            edge.is("HOLDS", is ? 1 : ClauseCourt.STATE, c.ask(0, 0));
        }
    }

    private static void itemsOnce() {
        edge.of("15", "a ROW has each of its ITEMS once, where it stands first");
        laid("&(x1,x1)", "1 -9; 1 -9; 9 -1; 9");
        laid("&(x1,!x1)", "1 -9; -1 -9; 9 -1 1; 9");
        laid("|(x2,x2,x1,x2)", "-2 9; -2 9; -1 9; -2 9; 2 1 -9; 9");
        laid(">(x1,x1)", "1 9; -1 9; -1 1 -9; 9");
        laid(">(x1,!x1)", "1 9; 1 9; -1 -9; 9");
        laid("j(x1,x1)", "1 -9; -1 -9; 9 -1 1; 9 -1 1; 9");
        laid("j(x1,!x1)", "1 -1 -9; -1 1 -9; 9 -1; 9 1; 9");
    }

    private static void namesMet() {
        edge.of("15", "for each &, |, >, j, inner ones first, from the left on, a new NAME z");
        laid("&(|(x1),>(x2,x3))", "-1 9; 1 -9; 2 10; -3 10; -2 3 -10; 9 -11; 10 -11; 11 -9 -10; 11");
        laid("&(|(&(x1)),x2)", "1 -9; 9 -1; -9 10; 9 -10; 10 -11; 2 -11; 11 -10 -2; 11");
        laid("&(x2,|(&(x1)))", "1 -9; 9 -1; -9 10; 9 -10; 2 -11; 10 -11; 11 -2 -10; 11");
        laid("x1", "1");
        ClauseCourt c = Hand.withNames(1);
        told(c, "x1");
        edge.is("without any of these no NAME comes", 1, c.about(0));
        told(c, "&(&(&(x1)))");
        edge.is("about(0)", 4, c.about(0));
    }

    private static void itemsOfTexts() {
        edge.of("18", "of TOLD those of its text, as they stand there");
        ClauseCourt c = Hand.withNames(8);
        told(c, "&(x3,!x1,|(!!x3,x002))");
        edge.is("n", 4, c.item(0, -1));
        int[] items = {3, 1, 3, 2};
        for (int i = 0; i < items.length; i++) {
            edge.is("item(0, " + i + ")", items[i], c.item(0, i));
        }
        edge.is("item(0, 4)", ClauseCourt.NONE, c.item(0, 4));
    }
}
