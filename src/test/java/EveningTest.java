/** Promises 28 to 33 and 37 to 39: what is made of evenings. */
public final class EveningTest {
    private static final Check check = new Check();

    public static void main(String[] args) {
        lengths();
        refusals();
        nothingIsChanged();
        grows();
        few();
        fewByBits();
        front();
        fit();
        part();
        spread();
        evenings9999();
        check.end();
    }

    /** One that begins by AT 3 and claps till LIKES, one that is caught by it. */
    private static ClapTogether two() {
        ClapTogether x = new ClapTogether();
        x.person(1, 0, 4, 1, 3);
        x.person(2, 1, 60, 1, 0);
        return x;
    }

    private static void lengths() {
        ClapTogether x = two();
        // by ticks: 0 begins in tick 3, 1 in tick 4; 0 stops in tick 9 (n is 5), 1 in tick 10, hearing nothing
        int[] tally = {0, 0, 0, 1, 2, 2, 2, 2, 2, 1, 0, 0};
        for (int i = 0; i < 12; i++) check.due("tally " + i, x.tally(-1, 12, i), tally[i]);
        check.due("length", x.length(-1, 12), 7);
        check.due("length till the last", x.length(-1, 8), 5);
        check.due("length, nobody yet", x.length(-1, 3), 0);
        check.due("length of none", x.length(-1, 0), 0);
        check.due("joined", x.joined(-1, 12), 2);
        check.due("joined, one", x.joined(-1, 4), 1);
        check.due("joined, none", x.joined(-1, 3), 0);
        Check.laws(x, "catch 13");
        check.due("by laws", x.length(0, 100), 6);
        check.due("by laws", x.joined(0, 200), 1);
        check.due("by laws", x.tally(0, 200, 8), 1);
        x.person(0, 47, 99, 1, 0);
        x.begin(2);
        x.alter(2, 0, 0);
        check.due("clapping now alone", x.joined(-1, 0), 1);
        check.due("not behind any tick", x.length(-1, 0), 0);
        x.person(1, 40, 0, 1, 6);
        check.due("till the first nobody", x.length(0, 3), 1);
        check.due("not on from the second time", x.length(0, 50), 1);
        check.due("MANY are all that ever clap: 6 and 1 catch the last one", x.joined(0, 50), 4);
    }

    private static void refusals() {
        ClapTogether x = two();
        Check.laws(x, "catch 13");
        int[] others = {-2, 1, 6};
        for (int laws : others) {
            check.due("length", x.length(laws, 201), -1);
            check.due("joined", x.joined(laws, 201), -1);
            check.due("tally", x.tally(laws, 5, 0), -5);
            check.due("front", x.front(laws), -11);
            check.due("part", x.part(laws, 0, 201), -11);
            check.due("part", x.part(-1, laws, 5), -11);
        }
        check.due("counted -1", x.status(11), 15);
        check.due("length 201", x.length(0, 201), -6);
        check.due("length -1", x.length(0, -1), -6);
        check.due("joined 201", x.joined(-1, 201), -6);
        check.due("joined -1", x.joined(-1, -1), -6);
        check.due("part 201", x.part(-1, 0, 201), -16);
        check.due("part -1", x.part(-1, 0, -1), -16);
        check.due("counted -6", x.status(16), 6);
        check.due("tally 201", x.tally(0, 201, 0), -5);
        check.due("tally of none", x.tally(0, 0, 0), -5);
        check.due("tally -1", x.tally(0, -1, -1), -5);
        check.due("tally before", x.tally(0, 5, -1), -5);
        check.due("tally behind", x.tally(0, 5, 5), -5);
        check.due("tally last", x.tally(0, 5, 4), 1);
        check.due("counted -5", x.status(15), 8);
        check.due("length 200", x.length(0, 200), 6);
    }

    private static void nothingIsChanged() {
        ClapTogether x = two();
        x.person(5, 8, 90, 3, 0);
        x.person(4, 9, 90, 3, 0);
        Check.laws(x, "tire 5");
        x.force(0);
        x.tick(5);
        x.alter(2, 3, 1);
        Check.ints(x, 0, 1, 2, 3);
        int[] was = new int[46];
        for (int round = 0; round < 2; round++) {
            for (int i = 0; i < 40; i++) {
                int v = x.personOf(i / 10, i % 10);
                if (round == 0) was[i] = v;
                check.due("person " + i, v, was[i]);
            }
            int[] told = {x.hits(), x.step(), x.status(3), x.status(4), x.heard(0), x.many(2)};
            for (int i = 0; i < 6; i++) {
                if (round == 0) was[40 + i] = told[i];
                check.due("told " + i, told[i], was[40 + i]);
            }
            x.length(0, 50);
            x.joined(0, 50);
            x.tally(0, 50, 9);
            x.grows(1);
            x.few(30);
            x.front(0);
            x.fit(0, 3);
            x.part(-1, 0, 50);
            x.spread(20);
        }
    }

    private static void grows() {
        ClapTogether x = new ClapTogether();
        x.person(1, 0, 5, 1, 0);
        x.person(6, 1, 5, 1, 0);
        x.person(1, 2, 99, 1, 0);
        x.person(2, 3, 99, 1, 0);
        check.due("FIRST ones don't begin by AT, POLITE ones do by what they hear", x.grows(0), 2);
        check.due("nor FIRST ones by what they hear", x.grows(1), 1);
        check.due("from another", x.grows(3), 1);
        x.tick(40);
        check.due("all are quiet again, whatever they were", x.grows(0), 2);
        x.force(Check.laws(x, "catch 99"));
        check.due("by the laws in force", x.grows(0), 1);
        check.due("none such", x.grows(4), -1);
        check.due("none such", x.grows(-1), -1);
        check.due("counted", x.status(11), 2);
        x = new ClapTogether();
        check.due("nobody", x.grows(0), -1);
    }

    private static void few() {
        ClapTogether x = new ClapTogether();
        check.due("m 0", x.few(0), -6);
        check.due("m 31", x.few(31), -6);
        check.due("m -1", x.few(-1), -6);
        check.due("nobody", x.few(1), -5);
        check.due("m 30 may be", x.few(30), -5);
        for (int i = 0; i < 4; i++) x.person(0, i, 50, 1, 0);
        check.due("one", x.few(1), 1);
        check.due("two", x.few(2), 3);
        check.due("three", x.few(3), -5);
        x.begin(0);
        check.due("none need be asked", x.few(1), 0);
        check.due("one that is quiet", x.few(2), 2);
        check.due("two that are quiet", x.few(3), 6);
        check.due("not three", x.few(4), -5);
        x.person(2, 6, 80, 1, 0);
        check.due("the one that brings one more", x.few(3), 8);
        x.person(1, 40, 1, 1, 61);
        check.due("not within 60 ticks", x.few(6), -5);
        check.due("counted -5", x.status(15), 5);
        x.force(Check.laws(x, "catch 99"));
        check.due("by the laws in force", x.few(3), 6);
        x.tick(60);
        check.due("none of those that are done", x.many(3), 1);
        check.due("FIRST comes by itself", x.few(1), 0);
        x = new ClapTogether();
        x.person(1, 0, 1, 1, 59);
        check.due("in the last of 60 ticks", x.few(1), 0);
        x.alter(0, 2, 60);
        check.due("behind the last of 60 ticks", x.few(1), 1);
    }

    private static void fewByBits() {
        ClapTogether x = new ClapTogether();
        x.force(Check.laws(x, "catch 12"));
        // two are caught by 0 and 3 together (seats 0 and 2 about 1), or by 1 and 2 (seats 24 and 26 about 25)
        x.person(0, 0, 50, 1, 0);
        x.person(0, 24, 50, 1, 0);
        x.person(0, 26, 50, 1, 0);
        x.person(0, 2, 50, 1, 0);
        x.person(2, 1, 0, 1, 0);
        x.person(2, 25, 0, 1, 0);
        check.due("1 and 2 are 6, ahead of 0 and 3, which are 9", x.few(3), 6);
    }

    private static void front() {
        ClapTogether x = new ClapTogether();
        check.due("nobody", x.front(-1), -1);
        x.person(1, 33, 80, 1, 5);
        check.due("row 4", x.front(-1), 4);
        x.person(1, 47, 99, 1, 0);
        check.due("still row 4", x.front(-1), 4);
        x.person(1, 10, 79, 1, 59);
        check.due("below stand", x.front(-1), 4);
        Check.laws(x, "stand 79");
        check.due("by laws, in the last tick", x.front(0), 1);
        x.alter(2, 2, 60);
        check.due("not by the 60th", x.front(0), 4);
        Check.laws(x, "stand 99");
        check.due("the last row", x.front(1), 5);
        x.alter(1, 0, 98);
        check.due("nobody stands", x.front(1), -1);
        check.due("no refusal", x.status(11), 0);
        x.tick(6);
        check.due("those that stand already", x.front(1), 4);
    }

    private static void fit() {
        ClapTogether x = two();
        Check.ints(x, 0, 0, 0, 0, 1, 2, 2);
        check.due("no laws", x.fit(0, 6), 0);
        String[] texts = {"see 1", "catch 13", "catch 11", "stop 7", "half 1", "catch 12;stop 99"};
        for (String text : texts) Check.laws(x, text);
        check.due("those that fit", x.fit(0, 6), 1 + 4 + 16);
        check.due("all fit none", x.fit(0, 0), 63);
        check.due("fewer ticks", x.fit(0, 4), 63);
        check.due("but one fit 5", x.fit(0, 5), 63 - 2);
        check.due("fewer elements", x.fit(0, 7), -5);
        check.due("more than may be, and than there are", x.fit(0, 101), -5);
        check.due("below", x.fit(0, -1), -4);
        check.due("no shelf", x.fit(-1, -1), -1);
        check.due("nothing", x.fit(1, -1), -3);
        x.show(1, 0);
        check.due("a person", x.fit(1, -1), -2);
        x.row(2, 3, 100);
        x.set(2, 3, 0x100000001L);
        check.due("longs as ints", x.fit(2, 4), 63);
        check.due("nobody goes on for 100", x.fit(2, 100), 0);
    }

    private static void part() {
        ClapTogether x = two();
        Check.laws(x, "catch 13");
        Check.laws(x, "see 1");
        check.due("they part", x.part(-1, 0, 50), 4);
        check.due("they part", x.part(0, 1, 50), 4);
        check.due("not yet", x.part(0, 1, 4), -1);
        check.due("just", x.part(0, 1, 5), 4);
        check.due("they don't", x.part(-1, 1, 200), -1);
        check.due("alike", x.part(0, 0, 200), -1);
        check.due("none", x.part(0, 1, 0), -1);
        check.due("no refusal", x.status(11), 0);
    }

    private static void spread() {
        ClapTogether x = new ClapTogether();
        check.due("n 0", x.spread(0), -6);
        check.due("n 21", x.spread(21), -6);
        check.due("nobody", x.spread(20), 0);
        x.person(5, 0, 99, 1, 0);
        x.force(Check.laws(x, "stop 0;tire 3"));
        x.begin(0);
        x.seed(Integer.MAX_VALUE - 3);
        int least = 100;
        int greatest = 0;
        for (int n = 1; n <= 20; n++) {
            int seed = Integer.MAX_VALUE - 3 + n - 1;
            int length = 0;
            for (boolean on = true; on && length < 100; ) {
                seed = seed * 1103515245 + 12345;
                on = (seed >>> 16) % 10 >= 3 && length <= 99;
                if (on) length++;
            }
            least = Math.min(least, length);
            greatest = Math.max(greatest, length);
            check.due("spread " + n, x.spread(n), greatest - least);
        }
        check.due("seed as it was", x.status(4), Integer.MAX_VALUE - 3);
        spreadOf100();
    }

    /** One that would clap for more than 100 ticks, if the FADING one goes on for a tick by its draw. */
    private static void spreadOf100() {
        ClapTogether x = new ClapTogether();
        x.force(Check.laws(x, "catch 19;stop 0;tire 5"));
        x.person(5, 0, 99, 1, 0);
        x.person(1, 1, 2, 1, 0);
        x.person(2, 8, 99, 1, 0);
        x.begin(0);
        check.due("with it", x.length(0, 200), 102);
        check.due("100 ticks less 4", x.spread(20), 96);
    }

    private static void evenings9999() {
        ClapTogether x = new ClapTogether();
        for (int i = 0; i < 99; i++) x.tick(100);
        x.tick(99);
        x.begin(x.person(0, 0, 50, 1, 0));
        check.due("an evening may go beyond 9,999", x.length(-1, 200), 51);
    }
}
