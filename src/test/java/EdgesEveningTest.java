import java.util.Arrays;

/** The edges of promises 28 to 33 and 37 to 39: what is made of evenings. */
public final class EdgesEveningTest {
    private static final int MIN = Edges.MIN;
    private static final int MAX = Edges.MAX;
    private static final int CLAP = 0;
    private static final int FIRST = 1;
    private static final int CAUGHT = 2;
    private static final int BESIDE = 3;
    private static final int FADING = 5;
    private static final int POLITE = 6;
    // the shelves of a furnished hall
    private static final int INTS_5 = 2;
    private static final int PERSON_1 = 4;
    private static final int EMPTY = 5;
    private static final int BYTES_100 = 7;

    public static void main(String[] args) throws Exception {
        Edges.run(EdgesEveningTest.class);
    }

    /** One that claps without end by its laws 0, which are in force. */
    private static ClapTogether endless() {
        ClapTogether x = Edges.hall("near 0");
        Edges.asked(x, BESIDE, 0, 50);
        return x;
    }

    /** One FIRST that begins in the tick of an evening with this number, by AT 99. */
    private static ClapTogether beginningIn(int tick) {
        ClapTogether x = new ClapTogether();
        x.person(FIRST, 0, 99, 1, 99);
        if (tick < 99) x.tick(99 - tick);
        return x;
    }

    /**
     * Person 1 begins in tick 0 by person 0, and person 2 in tick 1 by both, if 0 is clapping still.
     * HEARD by 1 (and 4): 6; by 2: 6 of 0, and 4 of 1.
     */
    private static void joinOneByOne(ClapTogether x) {
        x.force(Check.laws(x, "catch 10;stop 0"));
        x.person(CAUGHT, 8, 40, 1, 0);
        x.person(CAUGHT, 1, 0, 1, 0);
    }

    /** One CLAP that is clapping now and will be done in its second tick. */
    private static ClapTogether ending() {
        ClapTogether x = new ClapTogether();
        Edges.asked(x, CLAP, 0, 0);
        return x;
    }

    // ---- promises 28 and 29: what both refuse

    private static void p28LawsThatAreOrNone() {
        int[] none = {-2, 2, 6, MIN, MAX};
        for (int laws : none) Edges.refused(-1, y -> y.length(laws, 5));
        Edges.refused(-1, ClapTogether::new, y -> y.length(0, 5));
        for (int laws = -1; laws <= 1; laws++) {
            int by = laws;
            Edges.unchanged(new int[] {2, 5, 5}[laws + 1], EdgesEveningTest::threeLaws, y -> y.length(by, 5));
        }
    }

    /** Clapping ends by those at first, not by laws 0 or 1. */
    private static ClapTogether threeLaws() {
        ClapTogether x = new ClapTogether();
        Check.laws(x, "near 0");
        Check.laws(x, "stop 0");
        Edges.asked(x, BESIDE, 0, 40);
        Edges.asked(x, BESIDE, 1, 0);
        Edges.asked(x, CLAP, 16, 0);
        return x;
    }

    private static void p28TicksAre0To200() {
        int[] wrong = {-1, 201, 202, MIN, MAX};
        for (int n : wrong) {
            Edges.refused(-6, y -> y.length(-1, n));
            Edges.refused(-6, y -> y.length(1, n));
        }
        int[] right = {0, 1, 2, 199, 200};
        for (int n : right) Edges.unchanged(n, EdgesEveningTest::endless, y -> y.length(0, n));
    }

    private static void p28LawsAheadOfTicks() {
        Edges.refused(-1, y -> y.length(2, 201));
        Edges.refused(-1, y -> y.length(-2, -1));
    }

    private static void p28NobodyEver() {
        Edges.unchanged(0, ClapTogether::new, y -> y.length(-1, 200));
        Edges.unchanged(0, Edges::full, y -> y.length(-1, 0));
    }

    private static void p28NoTicks() {
        Edges.unchanged(0, EdgesEveningTest::endless, y -> y.length(0, 0));
    }

    private static void p28FromTheFirstBehindWhichSomebodyIs() {
        for (int tick = 0; tick <= 5; tick++) {
            ClapTogether x = new ClapTogether();
            x.person(FIRST, 0, 99, 1, tick);
            // alone it stops when it claps for 5 ticks: behind 6 of them it is clapping
            for (int n = 0; n <= 14; n++) {
                Edges.due("begins in " + tick + ", of " + n, x.length(-1, n), Math.max(0, Math.min(6, n - tick)));
            }
        }
    }

    private static void p28TillTheFirstBehindWhichNobodyIs() {
        ClapTogether x = new ClapTogether();
        x.person(FIRST, 0, 0, 1, 1);
        x.person(FIRST, 47, 0, 1, 4);
        // behind ticks 1 and 2 the one, behind 4 and 5 the other
        int[] want = {0, 0, 1, 2, 2, 2, 2, 2};
        for (int n = 0; n < want.length; n++) Edges.due("of " + n, x.length(-1, n), want[n]);
        x.alter(1, 2, 3);
        int[] joined = {0, 0, 1, 2, 3, 4, 4, 4};
        for (int n = 0; n < joined.length; n++) Edges.due("without a gap, of " + n, x.length(-1, n), joined[n]);
    }

    private static void p28TillTheLastIfThereIsNone() {
        int[] sizes = {1, 2, 100, 199, 200};
        for (int n : sizes) {
            ClapTogether x = new ClapTogether();
            Check.laws(x, "near 0");
            x.person(FIRST, 0, 0, 1, 0);
            x.person(BESIDE, 1, 99, 1, 0);
            Edges.due("of " + n, x.length(0, n), n);
        }
    }

    private static void p28ClappingNowAlone() {
        ClapTogether x = new ClapTogether();
        Edges.asked(x, CLAP, 0, 0);
        x.tick(1);
        for (int n = 0; n <= 3; n++) Edges.due("done in the first tick, of " + n, x.length(-1, n), 0);
        x.person(FIRST, 20, 0, 1, 3);
        Edges.due("then from the next on", x.length(-1, 9), 2);
    }

    private static void p29LawsThatAreOrNone() {
        int[] none = {-2, 2, 6, MIN, MAX};
        for (int laws : none) Edges.refused(-1, y -> y.joined(laws, 5));
        Edges.refused(-1, ClapTogether::new, y -> y.joined(0, 5));
        for (int laws = -1; laws <= 1; laws++) {
            int by = laws;
            Edges.unchanged(3, EdgesEveningTest::threeLaws, y -> y.joined(by, 5));
        }
    }

    private static void p29TicksAre0To200() {
        int[] wrong = {-1, 201, 202, MIN, MAX};
        for (int n : wrong) Edges.refused(-6, y -> y.joined(0, n));
        int[] right = {0, 1, 199, 200};
        for (int n : right) Edges.unchanged(1, EdgesEveningTest::endless, y -> y.joined(0, n));
        Edges.refused(-1, y -> y.joined(2, 201));
        Edges.refused(-1, y -> y.joined(-2, -1));
    }

    private static void p29BehindSomeTickOrNow() {
        Edges.unchanged(1, EdgesEveningTest::ending, y -> y.joined(-1, 0));
        Edges.unchanged(1, EdgesEveningTest::ending, y -> y.joined(-1, 200));
        ClapTogether x = new ClapTogether();
        Edges.asked(x, CLAP, 0, 0);
        x.tick(1);
        x.person(FIRST, 20, 0, 1, 4);
        int[] want = {1, 1, 1, 1, 2, 2};
        for (int n = 0; n < want.length; n++) Edges.due("of " + n, x.joined(-1, n), want[n]);
        x.tick(1);
        int[] then = {0, 0, 0, 1, 1, 1};
        for (int n = 0; n < then.length; n++) Edges.due("done ones don't count, of " + n, x.joined(-1, n), then[n]);
    }

    private static void p29AllThirty() {
        ClapTogether x = new ClapTogether();
        for (int i = 0; i < 30; i++) x.person(FIRST, i, 0, 1, i);
        for (int n = 0; n <= 40; n += 5) Edges.due("of " + n, x.joined(-1, n), Math.min(30, n));
    }

    // ---- promise 30

    private static void p30LawsThatAreOrNone() {
        int[] none = {-2, 2, 6, MIN, MAX};
        for (int laws : none) Edges.refused(-5, y -> y.tally(laws, 5, 0));
        for (int laws = -1; laws <= 1; laws++) {
            int by = laws;
            Edges.unchanged(new int[] {0, 2, 1}[laws + 1], EdgesEveningTest::threeLaws, y -> y.tally(by, 5, 3));
        }
    }

    private static void p30TicksAre0To200() {
        int[] wrong = {-1, 201, MIN, MAX};
        for (int n : wrong) Edges.refused(-5, y -> y.tally(0, n, 0));
        Edges.refused(-5, y -> y.tally(0, 0, 0));
        Edges.refused(-5, y -> y.tally(0, 0, -1));
        Edges.unchanged(1, EdgesEveningTest::endless, y -> y.tally(0, 1, 0));
        Edges.unchanged(1, EdgesEveningTest::endless, y -> y.tally(0, 200, 199));
    }

    private static void p30TheTickIsOneOfThose() {
        int[] sizes = {1, 2, 50, 200};
        for (int n : sizes) {
            Edges.refused(-5, y -> y.tally(0, n, -1));
            Edges.refused(-5, y -> y.tally(0, n, n));
            Edges.refused(-5, y -> y.tally(0, n, n + 1));
            Edges.refused(-5, y -> y.tally(0, n, MAX));
            Edges.refused(-5, y -> y.tally(0, n, MIN));
            Edges.unchanged(1, EdgesEveningTest::endless, y -> y.tally(0, n, 0));
            Edges.unchanged(1, EdgesEveningTest::endless, y -> y.tally(0, n, n - 1));
        }
    }

    private static void p30BehindEachTickAsTicksGoBy() {
        ClapTogether x = Edges.furnished();
        ClapTogether y = Edges.furnished();
        for (int t = 0; t < 200; t++) Edges.due("tally " + t, x.tally(0, 200, t), y.tick(1));
    }

    private static void p30BeyondNow9999() {
        ClapTogether x = Edges.hall("near 0");
        for (int i = 0; i < 99; i++) x.tick(100);
        x.tick(99);
        Edges.asked(x, BESIDE, 0, 50);
        Edges.answers(1, x, y -> y.tally(0, 200, 199));
        Edges.answers(200, x, y -> y.length(0, 200));
        Edges.due("NOW", x.status(3), 9999);
    }

    // ---- promise 31

    private static void p31PeopleThatAre() {
        int[] none = {-1, 7, 30, MIN, MAX};
        for (int person : none) Edges.refused(-1, y -> y.grows(person));
        Edges.refused(-1, ClapTogether::new, y -> y.grows(0));
        Edges.refused(-1, Edges::full, y -> y.grows(30));
        ClapTogether x = new ClapTogether();
        for (int i = 0; i < 30; i++) x.person(CLAP, i, 0, 1, 0);
        Edges.answers(0, x, y -> y.grows(29));
        Edges.answers(0, x, y -> y.grows(0));
    }

    private static void p31NoFirstOnesByAt() {
        ClapTogether x = new ClapTogether();
        x.person(CLAP, 0, 0, 1, 0);
        x.person(FIRST, 1, 99, 1, 0);
        x.person(FIRST, 8, 99, 1, 50);
        Edges.answers(0, x, y -> y.grows(0));
        Edges.answers(0, x, y -> y.grows(1));
        x.tick(100);
        Edges.answers(0, x, y -> y.grows(0));
    }

    private static void p31NoPoliteOnesByAtButByHeard() {
        ClapTogether x = new ClapTogether();
        x.person(CLAP, 0, 0, 1, 0);
        x.person(POLITE, 47, 99, 1, 0);
        Edges.answers(0, x, y -> y.grows(0));
        x.move(1, 39);
        Edges.answers(1, x, y -> y.grows(0));
        Edges.answers(0, x, y -> y.grows(1));
    }

    private static void p31OnlyItIsClapping() {
        ClapTogether x = new ClapTogether();
        x.person(CAUGHT, 0, 60, 1, 0);
        x.person(CAUGHT, 1, 0, 1, 0);
        Edges.asked(x, CLAP, 8, 0);
        x.begin(1);
        // 0 is caught by 1 or by 2 alone (6 and 6 are 12), and 1 by neither (6, or 6 and 4)
        Edges.answers(1, x, y -> y.grows(1));
        Edges.answers(0, x, y -> y.grows(0));
        Edges.answers(1, x, y -> y.grows(2));
        x.tick(100);
        Edges.due("done", x.many(3) > 0 ? 1 : 0, 1);
        Edges.answers(1, x, y -> y.grows(1));
        Edges.answers(1, x, y -> y.grows(2));
    }

    private static void p31ForOneThatIsClappingItsTicksAre0() {
        ClapTogether x = new ClapTogether();
        Edges.asked(x, CLAP, 0, 1);
        x.tick(2);
        joinOneByOne(x);
        Edges.due("it would be done in the next tick", x.personOf(0, 7), 2);
        Edges.answers(2, x, y -> y.grows(0));
        x.tick(1);
        Edges.due("done", Edges.mood(x, 0), 2);
        Edges.answers(2, x, y -> y.grows(0));
    }

    private static void p31ByLawsInForce() {
        ClapTogether x = new ClapTogether();
        x.person(CLAP, 0, 9, 1, 0);
        x.person(CAUGHT, 1, 60, 1, 0);
        Check.laws(x, "catch 13");
        Edges.answers(1, x, y -> y.grows(0));
        x.force(0);
        Edges.answers(0, x, y -> y.grows(0));
        x.force(-1);
        Edges.answers(1, x, y -> y.grows(0));
    }

    private static void p31WithSeedAsItIs() {
        int found = 0;
        for (int seed = 0; seed < 40; seed++) {
            // 1 begins in tick 0 and draws in tick 1; 2 begins in tick 1; 3 in tick 2 by all three alone
            ClapTogether x = Edges.hall("tire 5;stop 0;catch 10;half 0");
            x.person(CLAP, 0, 99, 1, 0);
            x.person(FADING, 1, 40, 1, 0);
            x.person(CAUGHT, 8, 0, 1, 0);
            x.person(CAUGHT, 10, 0, 1, 0);
            x.seed(seed);
            int want = Edges.draw(seed, 10) < 5 ? 2 : 3;
            found |= want;
            Edges.answers(want, x, y -> y.grows(0));
            Edges.due("seed", x.status(4), seed);
        }
        Edges.due("both were found", found, 3);
    }

    private static void p31NothingIsChanged() {
        for (int person = 0; person <= 6; person++) {
            int which = person;
            long want = Edges.furnished().grows(person);
            Edges.unchanged(want, Edges::furnished, y -> y.grows(which));
        }
    }

    // ---- promise 32

    private static void p32SizesAre1To30() {
        int[] wrong = {0, -1, 31, 32, MIN, MAX};
        for (int m : wrong) Edges.refused(-6, y -> y.few(m));
        for (int m : wrong) Edges.refused(-6, ClapTogether::new, y -> y.few(m));
        Edges.refused(-5, ClapTogether::new, y -> y.few(1));
        Edges.refused(-5, ClapTogether::new, y -> y.few(30));
        ClapTogether x = new ClapTogether();
        for (int i = 0; i < 30; i++) x.person(FIRST, i, 99, 1, 0);
        Edges.answers(0, x, y -> y.few(1));
        Edges.answers(0, x, y -> y.few(30));
    }

    private static void p32NoSuchSet() {
        Edges.refused(-5, () -> quietOnes(0), y -> y.few(1));
        Edges.refused(-5, () -> quietOnes(1), y -> y.few(2));
        Edges.refused(-5, () -> quietOnes(2), y -> y.few(3));
        Edges.refused(-5, () -> quietOnes(5), y -> y.few(3));
        Edges.refused(-5, () -> quietOnes(29), y -> y.few(30));
    }

    private static ClapTogether quietOnes(int count) {
        ClapTogether x = new ClapTogether();
        for (int i = 0; i < count; i++) x.person(CLAP, i, 0, 1, 0);
        return x;
    }

    private static void p32TheFewest() {
        Edges.unchanged(1, () -> quietOnes(5), y -> y.few(1));
        Edges.unchanged(3, () -> quietOnes(5), y -> y.few(2));
        ClapTogether x = new ClapTogether();
        int[] seats = {40, 42, 44, 46, 4};
        for (int seat : seats) x.person(CLAP, seat, 0, 1, 0);
        x.person(CAUGHT, 5, 60, 1, 0);
        // none but 4 brings another: it alone rather than 0 and 1
        Edges.answers(16, x, y -> y.few(2));
        Edges.answers(17, x, y -> y.few(3));
        x.begin(2);
        Edges.answers(0, x, y -> y.few(1));
        Edges.answers(1, x, y -> y.few(2));
        Edges.answers(16, x, y -> y.few(3));
        Edges.answers(17, x, y -> y.few(4));
    }

    private static void p32QuietOnesAlone() {
        ClapTogether x = quietOnes(4);
        x.begin(1);
        x.tick(2);
        x.begin(0);
        // 0 is clapping, 1 done
        Edges.answers(0, x, y -> y.few(1));
        Edges.answers(4, x, y -> y.few(2));
        Edges.answers(12, x, y -> y.few(3));
        Edges.refused(-5, () -> oneOfEach(), y -> y.few(4));
    }

    private static ClapTogether oneOfEach() {
        ClapTogether x = quietOnes(4);
        x.begin(1);
        x.tick(2);
        x.begin(0);
        return x;
    }

    private static void p32OfSeveralTheFirstByTheirNumbers() {
        for (int place = 0; place < 30; place++) {
            ClapTogether x = new ClapTogether();
            for (int i = 0; i < 30; i++) x.person(CLAP, i, 0, 1, 0);
            for (int i = 0; i < 30; i++) if (i < place) x.begin(i);
            x.tick(2);
            // those ahead are done
            int want = 1 << place;
            Edges.answers(want, x, y -> y.few(1));
            if (place < 29) Edges.answers(3 << place, x, y -> y.few(2));
            else Edges.due("no two", x.few(2), -5);
        }
    }

    private static void p32SixtyTicks() {
        int[] nows = {0, 1, 30};
        for (int now : nows) {
            for (int at = 58; at <= 61; at++) {
                ClapTogether x = new ClapTogether();
                x.person(FIRST, 0, 0, 1, now + at);
                if (now > 0) x.tick(now);
                int want = at <= 59 ? 0 : 1;
                Edges.answers(want, x, y -> y.few(1));
            }
        }
    }

    private static void p32AskedFor0Ticks() {
        ClapTogether x = new ClapTogether();
        x.person(CLAP, 0, 0, 1, 0);
        joinOneByOne(x);
        // of LIKES 0 it goes on in tick 0, so it is heard in tick 1
        Edges.answers(1, x, y -> y.few(3));
    }

    private static void p32ByLawsInForce() {
        ClapTogether x = quietOnes(2);
        x.person(CAUGHT, 2, 60, 1, 0);
        Check.laws(x, "catch 13");
        Edges.answers(2, x, y -> y.few(2));
        x.force(0);
        Edges.answers(3, x, y -> y.few(2));
    }

    private static void p32NothingIsChanged() {
        for (int m = 1; m <= 7; m++) {
            int which = m;
            long want = Edges.furnished().few(m);
            if (want >= 0) Edges.unchanged(want, Edges::furnished, y -> y.few(which));
            else Edges.refused((int) want, y -> y.few(which));
        }
    }

    // ---- promise 33

    private static void p33LawsThatAreOrNone() {
        int[] none = {-2, 2, 6, MIN, MAX};
        for (int laws : none) Edges.refused(-11, y -> y.front(laws));
        Edges.refused(-11, ClapTogether::new, y -> y.front(0));
        ClapTogether x = new ClapTogether();
        Check.laws(x, "stand 50");
        Check.laws(x, "stand 51");
        x.person(FIRST, 20, 50, 1, 0);
        Edges.answers(-1, x, y -> y.front(-1));
        Edges.answers(2, x, y -> y.front(0));
        Edges.answers(-1, x, y -> y.front(1));
    }

    private static void p33NobodyIsNoRefusal() {
        Edges.unchanged(-1, ClapTogether::new, y -> y.front(-1));
        Edges.unchanged(-1, () -> quietOnes(5), y -> y.front(-1));
    }

    private static void p33EachRow() {
        for (int row = 0; row <= 5; row++) {
            ClapTogether x = new ClapTogether();
            x.person(FIRST, 8 * row, 99, 1, 0);
            int want = row;
            Edges.answers(want, x, y -> y.front(-1));
            x.person(FIRST, 47, 99, 1, 0);
            Edges.answers(want, x, y -> y.front(-1));
            x.move(0, 8 * row + (row == 5 ? 6 : 7));
            Edges.answers(want, x, y -> y.front(-1));
        }
    }

    private static void p33SixtyTicks() {
        int[] nows = {0, 1, 30};
        for (int now : nows) {
            for (int at = 58; at <= 61; at++) {
                ClapTogether x = new ClapTogether();
                x.person(FIRST, 24, 99, 1, now + at);
                if (now > 0) x.tick(now);
                int want = at <= 59 ? 3 : -1;
                Edges.answers(want, x, y -> y.front(-1));
            }
        }
    }

    private static void p33ThoseThatStandAlready() {
        ClapTogether x = new ClapTogether();
        Edges.asked(x, CLAP, 8, 99);
        x.tick(1);
        x.alter(0, 0, 0);
        x.tick(9);
        Edges.due("done", Edges.mood(x, 0), 2);
        Edges.answers(1, x, y -> y.front(-1));
        x.move(0, 40);
        Edges.answers(5, x, y -> y.front(-1));
        x.hush();
        Edges.answers(-1, x, y -> y.front(-1));
    }

    private static void p33NothingIsChanged() {
        for (int laws = -1; laws <= 1; laws++) {
            int by = laws;
            long want = Edges.furnished().front(laws);
            Edges.unchanged(want, Edges::furnished, y -> y.front(by));
        }
    }

    // ---- promise 37

    private static void p37ShelvesAre0To7() {
        int[] none = {-1, 8, MIN, MAX};
        for (int s : none) Edges.refused(-1, y -> y.fit(s, 0));
    }

    private static void p37AShelfWithAPersonOrNothing() {
        Edges.refused(-2, y -> y.fit(PERSON_1, 0));
        Edges.refused(-3, y -> y.fit(EMPTY, 0));
    }

    private static void p37SizesBelow0() {
        int[] below = {-1, -2, MIN};
        for (int n : below) Edges.refused(-4, y -> y.fit(INTS_5, n));
    }

    private static void p37FewerElements() {
        int[] more = {6, 7, 100, 101, MAX};
        for (int n : more) Edges.refused(-5, y -> y.fit(INTS_5, n));
        // more than 100 is always more than a ROW has
        Edges.refused(-5, y -> y.fit(BYTES_100, 101));
        Edges.unchanged(0, Edges::furnished, y -> y.fit(INTS_5, 5));
        Edges.unchanged(0, Edges::furnished, y -> y.fit(BYTES_100, 100));
    }

    private static void p37NoElements() {
        Edges.unchanged(3, Edges::furnished, y -> y.fit(INTS_5, 0));
        ClapTogether x = new ClapTogether();
        x.row(0, 0, 0);
        Edges.answers(0, x, y -> y.fit(0, 0));
        Check.laws(x, "see 1");
        Edges.answers(1, x, y -> y.fit(0, 0));
    }

    private static void p37OneHundredElements() {
        ClapTogether x = endless();
        Check.laws(x, "stop 99");
        x.row(0, 0, 100);
        for (int i = 0; i < 100; i++) x.set(0, i, 1);
        Edges.answers(1, x, y -> y.fit(0, 100));
        Edges.answers(1, x, y -> y.fit(0, 1));
        x.set(0, 99, 2);
        Edges.answers(0, x, y -> y.fit(0, 100));
        Edges.answers(1, x, y -> y.fit(0, 99));
        x.set(0, 0, 2);
        Edges.answers(0, x, y -> y.fit(0, 1));
        Edges.answers(3, x, y -> y.fit(0, 0));
    }

    private static void p37BitsOfAllSix() {
        ClapTogether x = new ClapTogether();
        for (int i = 0; i < 6; i++) Check.laws(x, "stand " + i);
        Check.ints(x, 0, 1);
        x.person(FIRST, 0, 0, 1, 0);
        Edges.answers(63, x, y -> y.fit(0, 1));
        x.set(0, 0, 0);
        Edges.answers(0, x, y -> y.fit(0, 1));
        ClapTogether z = new ClapTogether();
        z.person(FIRST, 0, 9, 1, 0);
        z.person(CAUGHT, 1, 0, 1, 0);
        int[] catches = {6, 7, 5, 8, 7, 6};
        for (int least : catches) Check.laws(z, "catch " + least);
        Check.ints(z, 0, 1, 2);
        Edges.answers(1 + 4 + 32, z, y -> y.fit(0, 2));
    }

    private static void p37AsInts() {
        ClapTogether x = endless();
        x.row(0, 3, 2);
        x.set(0, 0, 0x500000001L);
        x.set(0, 1, -0xFFFFFFFFL);
        Edges.answers(1, x, y -> y.fit(0, 2));
        x.set(0, 1, 0x101L);
        Edges.answers(0, x, y -> y.fit(0, 2));
        x.row(0, 0, 1);
        x.set(0, 0, 0x101L);
        Edges.answers(1, x, y -> y.fit(0, 1));
    }

    private static void p37RefusalsInTheirOrder() {
        Edges.refused(-1, y -> y.fit(8, -1));
        Edges.refused(-1, y -> y.fit(-1, 101));
        Edges.refused(-2, y -> y.fit(PERSON_1, -1));
        Edges.refused(-2, y -> y.fit(PERSON_1, 101));
        Edges.refused(-3, y -> y.fit(EMPTY, -1));
        Edges.refused(-3, y -> y.fit(EMPTY, 101));
        Edges.refused(-5, y -> y.fit(INTS_5, 101));
    }

    // ---- promise 38

    private static void p38LawsThatAreOrNone() {
        int[] none = {-2, 2, 6, MIN, MAX};
        for (int laws : none) {
            Edges.refused(-11, y -> y.part(laws, 0, 5));
            Edges.refused(-11, y -> y.part(0, laws, 5));
            Edges.refused(-11, y -> y.part(laws, laws, 5));
        }
        Edges.unchanged(-1, Edges::furnished, y -> y.part(-1, -1, 5));
        Edges.unchanged(-1, Edges::furnished, y -> y.part(1, 1, 200));
        Edges.unchanged(-1, Edges::furnished, y -> y.part(0, 0, 200));
    }

    private static void p38TicksAre0To200() {
        int[] wrong = {-1, 201, MIN, MAX};
        for (int n : wrong) {
            Edges.refused(-16, y -> y.part(0, 1, n));
            Edges.refused(-16, y -> y.part(-1, -1, n));
        }
        Edges.unchanged(-1, Edges::furnished, y -> y.part(0, 1, 0));
    }

    private static void p38LawsAheadOfTicks() {
        Edges.refused(-11, y -> y.part(2, 0, 201));
        Edges.refused(-11, y -> y.part(0, 2, -1));
    }

    private static void p38TheFirstTick() {
        ClapTogether x = new ClapTogether();
        Check.laws(x, "half 2");
        Check.laws(x, "half 3");
        Edges.asked(x, POLITE, 0, 0);
        Check.laws(x, "half 0");
        // by half 2 it is done in tick 2, by 3 in tick 3, by 0 in tick 0
        Edges.answers(2, x, y -> y.part(0, 1, 3));
        Edges.answers(2, x, y -> y.part(1, 0, 200));
        Edges.answers(-1, x, y -> y.part(0, 1, 2));
        Edges.answers(0, x, y -> y.part(2, 1, 1));
        Edges.answers(0, x, y -> y.part(-1, 2, 200));
        Edges.answers(-1, x, y -> y.part(-1, 2, 0));
    }

    private static void p38TheLastOf200() {
        ClapTogether x = new ClapTogether();
        Check.laws(x, "stop 0");
        Check.laws(x, "stop 1");
        // 0 claps from tick 99 on and is done in 198, so 1 is left alone in 199
        x.person(FIRST, 0, 97, 1, 99);
        x.person(CAUGHT, 1, 99, 1, 0);
        Edges.answers(199, x, y -> y.part(0, 1, 200));
        Edges.answers(199, x, y -> y.part(1, 0, 200));
        Edges.answers(-1, x, y -> y.part(0, 1, 199));
    }

    private static void p38TheTalliesNotWhoClaps() {
        ClapTogether x = new ClapTogether();
        Check.laws(x, "half 9");
        Check.laws(x, "half 8");
        Edges.asked(x, POLITE, 0, 0);
        x.tick(9);
        // by those at first neither is done; by both laws it is done at once
        Edges.answers(-1, x, y -> y.part(0, 1, 50));
    }

    // ---- promise 39

    private static void p39SizesAre1To20() {
        int[] wrong = {0, -1, 21, 22, MIN, MAX};
        for (int n : wrong) Edges.refused(-6, y -> y.spread(n));
        for (int n : wrong) Edges.refused(-6, ClapTogether::new, y -> y.spread(n));
        Edges.unchanged(0, ClapTogether::new, y -> y.spread(1));
        Edges.unchanged(0, ClapTogether::new, y -> y.spread(20));
        Edges.unchanged(0, Edges::furnished, y -> y.spread(1));
    }

    private static ClapTogether tiring(int seed) {
        ClapTogether x = Edges.hall("stop 0;tire 2");
        Edges.asked(x, FADING, 0, 99);
        x.seed(seed);
        return x;
    }

    private static int lasting(int seed) {
        int next = seed;
        for (int length = 0; length < 100; length++) {
            if (Edges.draw(next, 10) < 2) return length;
            next = Edges.nextSeed(next);
        }
        return 100;
    }

    private static void p39SeedsWrap() {
        int[] seeds = {MAX - 3, MAX, MIN, -5, 0, 1};
        for (int seed : seeds) {
            int[] lasted = new int[20];
            for (int n = 1; n <= 20; n++) {
                lasted[n - 1] = lasting(seed + n - 1);
                int[] sorted = Arrays.copyOf(lasted, n);
                Arrays.sort(sorted);
                int want = sorted[n - 1] - sorted[0];
                int size = n;
                ClapTogether x = tiring(seed);
                Edges.answers(want, x, y -> y.spread(size));
                Edges.due("seed", x.status(4), seed);
            }
        }
    }

    private static void p39EveningsOf100Ticks() {
        // 2 joins in tick 1 for more than 100 ticks, if 0 goes on by its first draw; else 1 ends it in tick 4
        ClapTogether x = Edges.hall("catch 19;stop 0;tire 5");
        Edges.asked(x, FADING, 0, 99);
        x.person(FIRST, 1, 2, 1, 0);
        x.person(CAUGHT, 8, 99, 1, 0);
        int most = 0;
        for (int seed = 1; seed <= 20; seed++) {
            boolean isOn = Edges.draw(seed, 10) >= 5;
            x.seed(seed);
            Edges.due("of 200 ticks by seed " + seed, x.length(0, 200), isOn ? 102 : 4);
            if (isOn != Edges.draw(1, 10) >= 5) most = 96;
            x.seed(1);
            int n = seed;
            int want = most;
            Edges.answers(want, x, y -> y.spread(n));
        }
        Edges.due("both were found", most, 96);
    }

    private static void p39ByLawsInForce() {
        int found = 0;
        for (int seed = 0; seed < 10; seed++) {
            ClapTogether x = tiring(seed);
            found = Math.max(found, x.spread(20));
            x.force(-1);
            // by those at first it is left alone in the first tick
            Edges.answers(0, x, y -> y.spread(20));
        }
        Edges.due("some spread", found > 0 ? 1 : 0, 1);
    }

    private static void p39NothingIsChanged() {
        for (int n = 1; n <= 20; n += 19) {
            int size = n;
            long want = tiring(77).spread(n);
            Edges.unchanged(want, () -> tiring(77), y -> y.spread(size));
        }
    }

    // ---- evenings from NOW

    private static void p28FromNowOn() {
        int[] ticks = {0, 1, 50, 98, 99};
        for (int tick : ticks) {
            ClapTogether x = beginningIn(tick);
            int now = x.status(3);
            Edges.due("NOW and the tick are AT", now + tick, 99);
            Edges.answers(0, x, y -> y.length(-1, tick));
            Edges.answers(1, x, y -> y.length(-1, tick + 1));
            Edges.answers(1, x, y -> y.tally(-1, tick + 1, tick));
        }
    }
}
