/** The edges of promises 43 to 45: the image, what is restored, and how many there are. */
public final class EdgesImageTest {
    private static final int MIN = Edges.MIN;
    private static final int MAX = Edges.MAX;

    public static void main(String[] args) throws Exception {
        Edges.run(EdgesImageTest.class);
    }

    // ---- promise 43

    private static void p43Now() {
        int[] nows = {0, 1, 99, 100};
        for (int now : nows) {
            ClapTogether x = new ClapTogether();
            if (now > 0) x.tick(now);
            Edges.answers(now, x, ClapTogether::image);
            x.tick(1);
            Edges.answers(now, x, ClapTogether::restore);
            Edges.answers(now, x, y -> y.status(3));
        }
        ClapTogether x = new ClapTogether();
        for (int i = 0; i < 99; i++) x.tick(100);
        x.tick(99);
        Edges.answers(9999, x, ClapTogether::image);
        x.hush();
        Edges.answers(9999, x, ClapTogether::restore);
        Edges.due("no more ticks", x.tick(1), -6);
    }

    private static void p43NothingElseIsChanged() {
        ClapTogether x = Edges.furnished();
        x.image();
        ClapTogether y = Edges.furnished();
        for (int t = 0; t < 9; t++) {
            Edges.due("tick", x.tick(1), y.tick(1));
            Edges.due("hits", x.hits(), y.hits());
            Edges.due("seed", x.status(4), y.status(4));
        }
    }

    private static void p43TheLatestAlone() {
        ClapTogether x = new ClapTogether();
        x.image();
        x.person(1, 0, 99, 1, 0);
        x.tick(1);
        x.image();
        x.tick(1);
        Edges.answers(1, x, ClapTogether::restore);
        Edges.answers(1, x, y -> y.status(0));
        Edges.answers(1, x, y -> y.status(3));
    }

    // ---- promise 44

    private static void p44ThereIsNone() {
        Edges.refused(-6, ClapTogether::new, ClapTogether::restore);
        Edges.refused(-6, Edges::full, ClapTogether::restore);
        Edges.refused(-6, EdgesImageTest::hallWithoutImage, ClapTogether::restore);
    }

    private static ClapTogether hallWithoutImage() {
        ClapTogether x = Edges.full();
        x.tick(10);
        x.show(1, 29);
        x.micro(4);
        return x;
    }

    private static void p44AgainAndAgain() {
        ClapTogether x = Edges.furnished();
        for (int i = 0; i < 3; i++) {
            Edges.answers(2, x, ClapTogether::restore);
            x.tick(5);
            x.person(0, 30 + i, 1, 1, 1);
            x.hush();
        }
        Edges.answers(2, x, ClapTogether::restore);
        Edges.answers(7, x, y -> y.status(0));
    }

    private static ClapTogether restoredAtOnce() {
        ClapTogether x = Edges.furnished();
        x.restore();
        return x;
    }

    private static ClapTogether restoredThen() {
        ClapTogether x = Edges.furnished();
        for (int person = 0; person < 7; person++) {
            x.alter(person, 0, 3 * person);
            x.alter(person, 1, 7);
            x.alter(person, 2, 9);
            x.alter(person, 3, 5);
            x.move(person, 30 + person);
            x.glove(person, person != 1);
        }
        x.tick(20);
        x.seed(-5);
        x.force(-1);
        x.micro(47);
        x.person(3, 0, 1, 1, 1);
        x.restore();
        return x;
    }

    private static void p44AllButShelvesIsAsItWas() {
        Edges.alike("restored", restoredThen(), restoredAtOnce());
    }

    private static void p44LawsAreAsTheyWere() {
        ClapTogether x = Edges.furnished();
        for (int i = 2; i < 6; i++) Edges.due("laws", Check.laws(x, "near 7"), i);
        x.force(5);
        x.restore();
        Edges.answers(2, x, y -> y.status(1));
        Edges.due("those that came behind", x.law(2, 0), -5);
        Edges.answers(0, x, y -> y.force(1));
        Edges.due("room again", Check.laws(x, "see 4"), 2);
        int[] want = {12, 2, 3, 2, 20, 4, 80};
        for (int i = 0; i < 7; i++) Edges.due("law " + i, x.law(2, i), want[i]);
    }

    private static void p44MicrophonesAreAsTheyWere() {
        ClapTogether x = Edges.furnished();
        for (int i = 2; i < 8; i++) Edges.due("micro", x.micro(i), i);
        x.restore();
        Edges.answers(2, x, y -> y.status(2));
        Edges.due("those that came behind", x.sum(2), -1);
        Edges.due("room again", x.micro(9), 2);
    }

    private static void p44TheLastTickIsAsItWas() {
        ClapTogether x = new ClapTogether();
        Edges.clapper(x, 0);
        Edges.clapper(x, 1);
        x.alter(1, 1, 9);
        x.micro(0);
        x.tick(2);
        Edges.due("step", x.step(), 50);
        x.image();
        x.hush();
        x.tick(3);
        x.restore();
        Edges.answers(1, x, ClapTogether::hits);
        Edges.answers(50, x, ClapTogether::step);
        Edges.answers(12, x, y -> y.sum(0));
    }

    private static void p44ShelvesHoldThoseOfTheseNumbersOrNothing() {
        for (int there = 0; there <= 4; there++) {
            ClapTogether x = new ClapTogether();
            for (int i = 0; i < there; i++) x.person(0, i, 1, 1, 1);
            x.image();
            for (int i = there; i < 6; i++) x.person(0, i, 1, 1, 1);
            for (int s = 0; s < 6; s++) x.show(s, s);
            x.row(6, 3, 100);
            x.set(6, 99, 5);
            x.restore();
            for (int s = 0; s < 6; s++) Edges.due("holds " + s, x.holds(s), s < there ? s : -1);
            Edges.due("a row", x.holds(6), 103);
            Edges.due("its element", x.element(6, 99), 5);
            Edges.due("NOTHING", x.holds(7), -1);
        }
    }

    private static void p44AShelfLeftWithNothingStaysSo() {
        ClapTogether x = new ClapTogether();
        x.image();
        x.person(0, 1, 1, 1, 1);
        x.show(0, 0);
        x.restore();
        x.person(2, 2, 2, 2, 2);
        Edges.answers(-1, x, y -> y.holds(0));
        Edges.due("NOTHING", x.says(0, 0), -3);
    }

    private static void p44OneOfThatNumberFromTheImage() {
        ClapTogether x = new ClapTogether();
        x.person(1, 1, 11, 1, 55);
        x.image();
        x.alter(0, 0, 99);
        x.show(0, 0);
        x.restore();
        Edges.answers(0, x, y -> y.holds(0));
        Edges.answers(11, x, y -> y.says(0, 0));
    }

    private static void p44ThirtyComeAgain() {
        ClapTogether x = new ClapTogether();
        x.image();
        for (int round = 0; round < 3; round++) {
            for (int i = 0; i < 30; i++) Edges.due("person", x.person(5, i, 99, 9, 0), i);
            for (int i = 0; i < 30; i++) x.begin(i);
            x.alter(29, 3, 8);
            x.glove(29, true);
            x.tick(1);
            x.restore();
            Edges.due("nobody", x.status(0), 0);
        }
        for (int i = 0; i < 30; i++) x.person(0, i, 1, 1, 1);
        for (int what = 5; what <= 9; what++) Edges.due("as new", x.personOf(29, what), 0);
    }

    private static void p44NotTheFaultTheTraceAndRefusals() {
        ClapTogether x = new ClapTogether();
        x.person(1, 0, 1, 1, 1);
        x.image();
        Check.laws(x, "see");
        x.act(0, 2, 5);
        x.heard(9);
        x.restore();
        Edges.answers(3, x, ClapTogether::fault);
        Edges.answers(12, x, y -> y.trace(0));
        Edges.answers(5, x, y -> y.status(5));
        Edges.answers(1, x, y -> y.status(11));
        Edges.answers(1, x, y -> y.status(16));
    }

    private static void p44NorTheImage() {
        ClapTogether x = new ClapTogether();
        x.image();
        x.tick(5);
        x.restore();
        x.tick(3);
        Edges.answers(0, x, ClapTogether::restore);
    }

    // ---- promise 45

    private static void p45NoneForAnotherWhat() {
        int[] none = {-1, 6, 7, 8, 9, 10, 18, 19, -11, -17, MIN, MAX};
        for (int what : none) Edges.unchanged(-1, Edges::furnished, y -> y.status(what));
    }

    private static void p45Each() {
        ClapTogether x = Edges.furnished();
        x.seed(-77);
        int[] want = {7, 2, 2, 3, -77, 8};
        for (int what = 0; what <= 5; what++) {
            int which = what;
            Edges.answers(want[what], x, y -> y.status(which));
        }
    }

    private static void p45FromNoneToTheMost() {
        ClapTogether x = new ClapTogether();
        for (int i = 0; i <= 30; i++) {
            Edges.due("people", x.status(0), i);
            x.person(0, i, 1, 1, 1);
        }
        Edges.due("people", x.status(0), 30);
        for (int i = 0; i <= 6; i++) {
            Edges.due("laws", x.status(1), i);
            Check.laws(x, "see 1");
        }
        Edges.due("laws", x.status(1), 6);
        for (int i = 0; i <= 8; i++) {
            Edges.due("microphones", x.status(2), i);
            x.micro(1);
        }
        Edges.due("microphones", x.status(2), 8);
    }

    private static void p45EachRefusal() {
        Edges.Call[] calls = {y -> y.heard(9), y -> y.set(4, 0, 1), y -> y.set(5, 0, 1), y -> y.row(0, 0, -1),
            y -> y.many(4), y -> y.tick(0), y -> y.row(0, 0, 101)};
        for (int i = 0; i < 7; i++) {
            ClapTogether x = Edges.furnished();
            int[] before = new int[7];
            for (int k = 0; k < 7; k++) before[k] = x.status(11 + k);
            for (int times = 1; times <= 3; times++) {
                Edges.due("refused", calls[i].on(x), -1 - i);
                for (int k = 0; k < 7; k++) Edges.due("-" + (k + 1), x.status(11 + k), before[k] + (k == i ? times : 0));
            }
        }
    }

    private static void p45LowerOnesAreCountedAsThoseTheyStandFor() {
        Edges.Call[] calls = {y -> y.force(9), y -> y.front(9), y -> y.part(9, 0, 1), y -> y.judge(9), y -> y.judge(4),
            y -> y.judge(5), y -> y.part(0, 0, -1)};
        int[] want = {-11, -11, -11, -11, -12, -13, -16};
        for (int i = 0; i < 7; i++) {
            ClapTogether x = Edges.furnished();
            int as = -want[i];
            int before = x.status(as);
            int all = Edges.refusalsOf(x);
            Edges.due("refused", calls[i].on(x), want[i]);
            Edges.due("counted", x.status(as), before + 1);
            Edges.due("but once", Edges.refusalsOf(x), all + 1);
        }
    }

    private static void p45FiveHundredRefusals() {
        ClapTogether x = new ClapTogether();
        for (int i = 0; i < 500; i++) x.heard(0);
        Edges.due("counted", x.status(11), 500);
    }
}
