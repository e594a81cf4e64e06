/** Promises 15 to 19: laws read from texts, faults, which are in force; the seed. */
public final class LawsTest {
    private static final Check check = new Check();

    public static void main(String[] args) {
        reading();
        faults();
        refusals();
        force();
        seed();
        check.end();
    }

    private static void reading() {
        ClapTogether x = new ClapTogether();
        check.due("one", Check.laws(x, "catch 0"), 0);
        check.due("all", Check.laws(x, "stand 7;see 06;half 50;tire 4;stop 33;near 2;catch 11"), 1);
        check.due("told again", Check.laws(x, "see 1;see 22;see 3"), 2);
        check.due("00", Check.laws(x, "near 00;tire 99"), 3);
        int[][] want = {{0, 2, 3, 2, 20, 2, 80}, {11, 2, 33, 4, 50, 6, 7}, {12, 2, 3, 2, 20, 3, 80}, {12, 0, 3, 99, 20, 2, 80}};
        for (int laws = 0; laws < 4; laws++) {
            for (int i = 0; i < 7; i++) check.due("law " + laws + ", " + i, x.law(laws, i), want[laws][i]);
        }
        check.due("no fault", x.fault(), -1);
        check.due("law -1", x.law(-1, 0), -5);
        check.due("law 4", x.law(4, 0), -5);
        check.due("law 0, 7", x.law(0, 7), -5);
        check.due("law 0, -1", x.law(0, -1), -5);
        check.due("counted", x.status(15), 4);
        x.row(0, 3, 5);
        String text = "see 8";
        for (int i = 0; i < 5; i++) x.set(0, i, text.charAt(i) + (77L + i << 32));
        check.due("longs as ints", x.laws(0), 4);
        check.due("longs as ints", x.law(4, 5), 8);
    }

    private static void faults() {
        Object[][] texts = {
            {"", 0}, {" ", 0}, {"x", 0}, {"Catch 1", 0}, {";", 0}, {"c", 1}, {"ca", 2}, {"cat 1", 3}, {"catc", 4},
            {"catch", 5}, {"catchy 1", 5}, {"catch;", 5}, {"catch ", 6}, {"catch  1", 6}, {"catch -1", 6}, {"catch x", 6},
            {"catch 100", 8}, {"catch 12 ", 8}, {"catch 1 ", 7}, {"catch 1;", 8}, {"catch 1;;", 8}, {"catch 1; near 2", 8},
            {"s", 1}, {"st", 2}, {"sta", 3}, {"sto", 3}, {"stx", 2}, {"se", 2}, {"sx", 1}, {"stond 1", 3}, {"stap 1", 3},
            {"see 1;stop 2;tire 3;hal 4", 23}, {"see 1,stop 2", 5}, {"see 1;stop 2x", 12}, {"half", 4}, {"tyre 1", 1},
            {"near 5;near 5;near", 18}, {"see1", 3}, {"seen 1", 3},
        };
        for (Object[] row : texts) {
            ClapTogether x = new ClapTogether();
            String text = (String) row[0];
            check.due("laws of '" + text + "'", Check.laws(x, text), -6);
            check.due("fault of '" + text + "'", x.fault(), (Integer) row[1]);
            check.due("none came by '" + text + "'", x.status(1), 0);
            check.due("counted", x.status(16), 1);
        }
    }

    private static void refusals() {
        ClapTogether x = new ClapTogether();
        Check.laws(x, "see 1;");
        check.due("fault", x.fault(), 6);
        check.due("no shelf", x.laws(8), -1);
        check.due("nothing", x.laws(0), -3);
        x.person(0, 0, 0, 1, 0);
        x.show(1, 0);
        check.due("a person", x.laws(1), -2);
        check.due("fault of the latest that came to a row", x.fault(), 6);
        for (int i = 0; i < 6; i++) check.due("laws", Check.laws(x, "see 1"), i);
        check.due("fault of none", x.fault(), -1);
        check.due("a fault before room", Check.laws(x, "see"), -6);
        check.due("fault", x.fault(), 3);
        check.due("room", Check.laws(x, "see 1"), -7);
        check.due("no fault, but no room", x.fault(), -1);
        check.due("six", x.status(1), 6);
    }

    private static void force() {
        ClapTogether x = new ClapTogether();
        check.due("none yet", x.force(0), -11);
        check.due("those at first", x.force(-1), -1);
        Check.laws(x, "catch 50");
        Check.laws(x, "catch 7");
        check.due("the second", x.force(1), -1);
        check.due("the first", x.force(0), 1);
        check.due("none such", x.force(2), -11);
        check.due("none such", x.force(-2), -11);
        check.due("counted as -1", x.status(11), 3);
        x.person(1, 0, 99, 1, 0);
        x.person(2, 1, 19, 1, 0);
        // HEARD 6 and 1 is 7: enough for the second laws alone
        check.due("not caught by the first", x.tick(2), 1);
        check.due("the second again", x.force(1), 0);
        check.due("caught by the second", x.tick(1), 2);
        check.due("those at first", x.force(-1), 1);
    }

    private static void seed() {
        ClapTogether x = new ClapTogether();
        check.due("seed", x.seed(-5), 1);
        check.due("seed", x.seed(Integer.MIN_VALUE), -5);
        check.due("seed is told", x.status(4), Integer.MIN_VALUE);
        x.seed(1);
        x.person(5, 0, 99, 1, 0);
        x.person(2, 1, 99, 1, 0);
        x.begin(1);
        x.tick(1);
        check.due("no draw for a quiet one", x.status(4), 1);
        x.begin(0);
        check.due("begin draws nothing", x.status(4), 1);
        x.tick(1);
        check.due("a draw", x.status(4), 1103527590);
    }
}
