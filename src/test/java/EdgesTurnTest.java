/** The edges of promise 20: its size, NOW, who BEGINS, who STOPS, and DRAWS. */
public final class EdgesTurnTest {
    private static final int MIN = Edges.MIN;
    private static final int MAX = Edges.MAX;
    private static final int CLAP = 0;
    private static final int FIRST = 1;
    private static final int CAUGHT = 2;
    private static final int BESIDE = 3;
    private static final int BEATING = 4;
    private static final int FADING = 5;
    private static final int POLITE = 6;
    // seats from seat 9: FAR 1 these four, the others FAR 2, 3 and so on
    private static final int[] BESIDE_9 = {1, 8, 10, 17};

    public static void main(String[] args) throws Exception {
        Edges.run(EdgesTurnTest.class);
    }

    /** Whether a quiet one on a seat begins in a tick, with such clapping; AT has no part in it. */
    private static int begins(String laws, int kind, int seat, int likes, int... clappers) {
        ClapTogether x = Edges.hall(laws);
        int person = x.person(kind, seat, likes, 1, 99);
        for (int at : clappers) Edges.clapper(x, at);
        x.tick(1);
        Edges.due("for 0 ticks", x.personOf(person, 7), 0);
        return Edges.mood(x, person);
    }

    /** How one fares in a tick that has just been asked to begin, with such clapping: 1 on, 2 done. */
    private static int goesOn(String laws, int kind, int seat, int likes, int... clappers) {
        ClapTogether x = Edges.hall(laws);
        int person = Edges.asked(x, kind, seat, likes);
        for (int at : clappers) Edges.clapper(x, at);
        x.tick(1);
        int mood = Edges.mood(x, person);
        Edges.due("for 1 tick, or none", x.personOf(person, 7), mood == 1 ? 1 : 0);
        return mood;
    }

    // ---- how many ticks, and NOW

    private static void p20TicksAre1To100() {
        int[] wrong = {0, -1, 101, 102, MIN, MAX};
        for (int n : wrong) Edges.refused(-6, y -> y.tick(n));
        int[] right = {1, 2, 99, 100};
        for (int n : right) {
            ClapTogether x = new ClapTogether();
            Edges.answers(0, x, y -> y.tick(n));
            Edges.due("NOW", x.status(3), n);
        }
    }

    private static void p20ManyTicksAreOneByOne() {
        ClapTogether x = Edges.furnished();
        ClapTogether y = Edges.furnished();
        int[] sizes = {1, 2, 9, 40, 100};
        for (int n : sizes) {
            int clapping = 0;
            for (int i = 0; i < n; i++) clapping = y.tick(1);
            Edges.due("clapping behind " + n, x.tick(n), clapping);
        }
        Edges.alike("behind one by one", x, y);
    }

    private static ClapTogether at9900() {
        ClapTogether x = Edges.hall("near 0;tire 5;stop 0");
        x.image();
        for (int i = 0; i < 99; i++) x.tick(100);
        // one that claps on, one that draws, one that begins by AT
        Edges.asked(x, BESIDE, 0, 99);
        Edges.asked(x, FADING, 1, 99);
        x.person(FIRST, 40, 99, 1, 99);
        return x;
    }

    private static ClapTogether at9998() {
        ClapTogether x = at9900();
        x.tick(98);
        return x;
    }

    private static ClapTogether at9999() {
        ClapTogether x = at9900();
        x.tick(99);
        return x;
    }

    private static void p20NowIs9999AtMost() {
        Edges.refused(-6, EdgesTurnTest::at9900, y -> y.tick(100));
        Edges.refused(-6, EdgesTurnTest::at9998, y -> y.tick(2));
        Edges.refused(-6, EdgesTurnTest::at9998, y -> y.tick(100));
        Edges.refused(-6, EdgesTurnTest::at9999, y -> y.tick(1));
        Edges.refused(-6, EdgesTurnTest::at9999, y -> y.tick(100));
        Edges.due("NOW", at9999().status(3), 9999);
        ClapTogether x = at9900();
        Edges.due("99 of them", x.tick(99) > 0 ? 1 : 0, 1);
        Edges.due("NOW", x.status(3), 9999);
        x = at9998();
        x.tick(1);
        Edges.due("NOW", x.status(3), 9999);
    }

    private static void p20NowFrom9899By100() {
        ClapTogether x = new ClapTogether();
        for (int i = 0; i < 98; i++) x.tick(100);
        x.tick(99);
        Edges.due("NOW", x.status(3), 9899);
        Edges.answers(0, x, y -> y.tick(100));
        Edges.due("NOW", x.status(3), 9999);
    }

    // ---- BEGINS

    private static void p20ClapNeverBegins() {
        Edges.due("by all that could", begins("catch 0;near 0", CLAP, 9, 99, BESIDE_9), 0);
        ClapTogether x = new ClapTogether();
        x.person(CLAP, 0, 99, 1, 0);
        Edges.due("by AT", x.tick(100), 0);
    }

    private static void p20FirstAndPoliteByNowAndAt() {
        int[] kinds = {FIRST, POLITE};
        int[] ats = {0, 1, 2, 50, 98, 99};
        for (int kind : kinds) {
            for (int at : ats) {
                ClapTogether x = new ClapTogether();
                x.person(kind, 0, 99, 1, at);
                if (at > 0) Edges.due("till AT", x.tick(at), 0);
                Edges.due("at AT", x.tick(1), 1);
                Edges.due("for 0 ticks", x.personOf(0, 7), 0);
            }
            ClapTogether x = new ClapTogether();
            x.person(kind, 0, 99, 1, 99);
            x.tick(50);
            x.alter(0, 2, 51);
            Edges.due("one ahead", x.tick(1), 0);
            x.alter(0, 2, 50);
            Edges.due("one behind", x.tick(1), 1);
        }
    }

    private static void p20FirstNotByHeard() {
        Edges.due("FIRST", begins("catch 0;near 0", FIRST, 9, 99, BESIDE_9), 0);
    }

    private static void p20HeardAndLikesAreCatchAtLeast() {
        int[] kinds = {CAUGHT, BESIDE, BEATING, FADING};
        for (int kind : kinds) {
            // HEARD 6 and 5
            Edges.due("one more", begins("catch 10;near 9", kind, 9, 59, 1), 1);
            Edges.due("just", begins("catch 11;near 9", kind, 9, 59, 1), 1);
            Edges.due("one less", begins("catch 12;near 9", kind, 9, 59, 1), 0);
            // HEARD 24 and 9
            Edges.due("just", begins("catch 33;near 9", kind, 9, 99, BESIDE_9), 1);
            Edges.due("one less", begins("catch 34;near 9", kind, 9, 99, BESIDE_9), 0);
            Edges.due("99", begins("catch 99;near 9", kind, 9, 99, BESIDE_9), 0);
        }
    }

    private static void p20LikesBy10AreCut() {
        int[] kinds = {CAUGHT, BESIDE, BEATING, FADING};
        for (int kind : kinds) {
            for (int tens = 1; tens <= 9; tens++) {
                String laws = "near 9;half 0;catch " + (6 + tens);
                Edges.due("below", begins(laws, kind, 9, 10 * tens - 1, 1), 0);
                Edges.due("just", begins(laws, kind, 9, 10 * tens, 1), 1);
                Edges.due("above", begins(laws, kind, 9, 10 * tens + 9, 1), 1);
            }
            Edges.due("0 to 9 are 0", begins("near 9;half 0;catch 6", kind, 9, 0, 1), 1);
            Edges.due("0 to 9 are 0", begins("near 9;half 0;catch 7", kind, 9, 9, 1), 0);
        }
    }

    private static void p20HeardIsAbove0() {
        int[] kinds = {CAUGHT, BESIDE, BEATING, FADING};
        int[] catches = {0, 1, 9};
        for (int kind : kinds) {
            for (int least : catches) {
                String laws = "half 0;catch " + least;
                Edges.due("nobody", begins(laws, kind, 0, 99), 0);
                Edges.due("FAR 12 is HEARD 0", begins(laws, kind, 0, 99, 47), 0);
                Edges.due("FAR 11 is HEARD 1", begins(laws, kind, 0, 99, 39), 1);
            }
        }
    }

    private static void p20BesideHimIsNearAtLeast() {
        for (int near = 1; near <= 4; near++) {
            for (int beside = 0; beside <= 4; beside++) {
                int[] seats = java.util.Arrays.copyOf(BESIDE_9, beside);
                int want = beside >= near ? 1 : 0;
                Edges.due(beside + " by near " + near, begins("catch 99;near " + near, BESIDE, 9, 99, seats), want);
            }
        }
        Edges.due("4 by near 5", begins("catch 99;near 5", BESIDE, 9, 99, BESIDE_9), 0);
    }

    private static void p20BesideHimIsAbove0() {
        Edges.due("none", begins("catch 99;near 0", BESIDE, 9, 99), 0);
        Edges.due("none, but HEARD", begins("catch 99;near 0", BESIDE, 9, 99, 2, 11, 25), 0);
        Edges.due("one", begins("catch 99;near 0", BESIDE, 9, 0, 1), 1);
    }

    private static void p20BesideHimIsForBesideAlone() {
        int[] kinds = {CAUGHT, BEATING, FADING};
        for (int kind : kinds) Edges.due("kind " + kind, begins("catch 99;near 1", kind, 9, 99, BESIDE_9), 0);
    }

    private static void p20FadingLikesAreHalfAtLeast() {
        int[] halves = {1, 20, 98, 99};
        for (int half : halves) {
            String laws = "catch 6;half " + half;
            Edges.due("below half " + half, begins(laws, FADING, 9, half - 1, 1), 0);
            Edges.due("half " + half, begins(laws, FADING, 9, half, 1), 1);
            Edges.due("above half " + half, begins(laws, FADING, 9, Math.min(half + 1, 99), 1), 1);
        }
        Edges.due("half 0", begins("catch 6;half 0", FADING, 9, 0, 1), 1);
        Edges.due("not half alone", begins("catch 16;half 0", FADING, 9, 99, 1), 0);
        int[] kinds = {CAUGHT, BESIDE, BEATING};
        for (int kind : kinds) Edges.due("not of kind " + kind, begins("catch 6;half 99", kind, 9, 0, 1), 1);
    }

    private static void p20PoliteHeardIsAbove0() {
        Edges.due("nobody", begins("", POLITE, 0, 99), 0);
        Edges.due("FAR 12 is HEARD 0", begins("", POLITE, 0, 99, 47), 0);
        Edges.due("FAR 11 is HEARD 1", begins("", POLITE, 0, 0, 39), 1);
        Edges.due("whatever catch and half are", begins("catch 99;half 99", POLITE, 0, 0, 39), 1);
    }

    private static void p20OneThatIsDoneDoesntBegin() {
        for (int kind = 0; kind <= 6; kind++) {
            ClapTogether x = Edges.hall("stop 99;half 0;near 1;catch 1;tire 10");
            x.person(kind, 0, 0, 1, 0);
            x.begin(0);
            x.tick(2);
            Edges.due("done", Edges.mood(x, 0), 2);
            int[] seats = {1, 8};
            for (int seat : seats) Edges.clapper(x, seat);
            x.tick(5);
            Edges.due("done on", Edges.mood(x, 0), 2);
        }
    }

    // ---- STOPS

    private static void p20AsClapIfTicksAreAboveLikes() {
        int[] kinds = {CLAP, FIRST, CAUGHT, BESIDE, BEATING, FADING};
        int[] all = {0, 1, 2, 50, 98, 99};
        for (int kind : kinds) {
            for (int likes : all) {
                ClapTogether x = Edges.hall("stop 0;near 99;tire 0");
                int person = Edges.asked(x, kind, 0, likes);
                // heard throughout, for that one goes on for more than 100 ticks itself
                x.force(Check.laws(x, "stop 0;near 0;tire 0"));
                Edges.asked(x, BESIDE, 2, 99);
                if (kind == BESIDE) x.force(0);
                x.tick(likes + 1);
                Edges.due("for LIKES and 1, kind " + kind, x.personOf(person, 7), likes + 1);
                x.tick(1);
                Edges.due("done, kind " + kind, Edges.mood(x, person), 2);
                Edges.due("no ticks", x.personOf(person, 7), 0);
            }
        }
    }

    private static void p20FirstIfHeardIs0AndTicksAre5() {
        for (int n = 0; n <= 7; n++) {
            ClapTogether x = new ClapTogether();
            Edges.asked(x, FIRST, 0, 99);
            int other = Edges.clapper(x, 39);
            if (n > 0) x.tick(n);
            Edges.due("HEARD 1", x.personOf(0, 7), n);
            x.tick(1);
            Edges.due("HEARD 1 goes on at " + n, Edges.mood(x, 0), 1);

            ClapTogether y = new ClapTogether();
            Edges.asked(y, FIRST, 0, 99);
            other = Edges.clapper(y, 39);
            if (n > 0) y.tick(n);
            y.move(other, 47);
            y.tick(1);
            Edges.due("HEARD 0 at " + n, Edges.mood(y, 0), n >= 5 ? 2 : 1);
        }
    }

    private static void p20FirstNotByStop() {
        Edges.due("FIRST", goesOn("stop 99;near 99;tire 10;half 0", FIRST, 0, 99, 1), 1);
        Edges.due("CLAP", goesOn("stop 99;near 99;tire 10;half 0", CLAP, 0, 99, 1), 1);
    }

    private static void p20HeardIsBelowStop() {
        int[] kinds = {CAUGHT, BESIDE, BEATING, FADING};
        // from seat 0: FAR 1 to 4, HEARD 6, 4, 3, 2; seat 47: HEARD 0
        int[][] heard = {{1, 6}, {2, 4}, {3, 3}, {4, 2}, {47, 0}};
        for (int kind : kinds) {
            for (int[] by : heard) {
                for (int stop = 0; stop <= 7; stop++) {
                    int want = by[1] < stop ? 2 : 1;
                    String laws = "tire 0;near 99;stop " + stop;
                    Edges.due("HEARD " + by[1] + " by stop " + stop, goesOn(laws, kind, 0, 99, by[0]), want);
                }
            }
            Edges.due("stop 99", goesOn("tire 0;near 99;stop 99", kind, 9, 99, BESIDE_9), 2);
        }
    }

    private static void p20BesideNotWhileBesideHimIsNear() {
        for (int near = 1; near <= 4; near++) {
            for (int beside = 0; beside <= 4; beside++) {
                int[] seats = java.util.Arrays.copyOf(BESIDE_9, beside);
                int want = beside >= near ? 1 : 2;
                String laws = "stop 99;near " + near;
                Edges.due(beside + " by near " + near, goesOn(laws, BESIDE, 9, 99, seats), want);
            }
        }
        Edges.due("4 by near 5", goesOn("stop 99;near 5", BESIDE, 9, 99, BESIDE_9), 2);
        Edges.due("none by near 0", goesOn("stop 99;near 0", BESIDE, 9, 99), 1);
        int[] kinds = {CAUGHT, BEATING, FADING};
        for (int kind : kinds) Edges.due("kind " + kind, goesOn("stop 99;near 1;tire 0", kind, 9, 99, BESIDE_9), 2);
    }

    private static void p20BesideNotAsClapWhileBesideHimIsNear() {
        ClapTogether x = Edges.hall("stop 0;near 2");
        Edges.asked(x, BESIDE, 9, 0);
        int one = Edges.clapper(x, 1);
        Edges.clapper(x, 8);
        x.tick(20);
        Edges.due("for 20 ticks", x.personOf(0, 7), 20);
        x.move(one, 2);
        x.tick(1);
        Edges.due("one is left beside it", Edges.mood(x, 0), 2);
    }

    private static void p20FadingByDraws() {
        boolean[] seen = new boolean[10];
        for (int seed = -30; seed <= 30; seed++) {
            int draw = Edges.draw(seed, 10);
            seen[draw] = true;
            for (int tire = draw; tire <= draw + 1; tire++) {
                ClapTogether x = Edges.hall("stop 0;tire " + tire);
                Edges.asked(x, FADING, 0, 99);
                x.seed(seed);
                x.tick(1);
                Edges.due("draw " + draw + " by tire " + tire, Edges.mood(x, 0), draw < tire ? 2 : 1);
                Edges.due("seed", x.status(4), Edges.nextSeed(seed));
            }
        }
        for (int draw = 0; draw < 10; draw++) Edges.due("seen " + draw, seen[draw] ? 1 : 0, 1);
    }

    private static void p20DrawsHaveNoSign() {
        int found = 0;
        for (int seed = 0; seed < 200; seed++) {
            int next = Edges.nextSeed(seed);
            int draw = Edges.draw(seed, 10);
            // those that would be below 1 if the upper 16 bits had a sign
            if (next >= 0 || draw == 0) continue;
            found++;
            ClapTogether x = Edges.hall("stop 0;tire 1");
            Edges.asked(x, FADING, 0, 99);
            x.seed(seed);
            x.tick(1);
            Edges.due("seed " + seed + " goes on", Edges.mood(x, 0), 1);
        }
        Edges.due("some were found", found > 20 ? 1 : 0, 1);
    }

    private static void p20DrawsWrap() {
        int[] seeds = {MAX, MIN, -1, 0, 1, 2, 0x7FFF0000, 0x80008000};
        for (int seed : seeds) {
            ClapTogether x = Edges.hall("stop 0;tire 0");
            Edges.asked(x, FADING, 0, 99);
            x.seed(seed);
            int now = seed;
            for (int t = 0; t < 5; t++) {
                now = Edges.nextSeed(now);
                x.tick(1);
                Edges.due("seed", x.status(4), now);
            }
        }
        ClapTogether x = Edges.hall("stop 0;tire 0");
        Edges.asked(x, FADING, 0, 99);
        x.tick(1);
        Edges.due("from 1", x.status(4), 1103527590);
        x.tick(1);
        Edges.due("wrapped", x.status(4), -1770082073);
    }

    private static void p20TireFrom0To99() {
        int[] all = {0, 9, 10, 11, 99};
        for (int tire : all) {
            for (int seed = 0; seed < 20; seed++) {
                ClapTogether x = Edges.hall("stop 0;tire " + tire);
                Edges.asked(x, FADING, 0, 99);
                x.seed(seed);
                x.tick(1);
                int want = Edges.draw(seed, 10) < tire ? 2 : 1;
                Edges.due("tire " + tire, Edges.mood(x, 0), want);
                if (tire == 0) Edges.due("never", want, 1);
                if (tire >= 10) Edges.due("always", want, 2);
            }
        }
    }

    private static void p20DrawsByNumbersOfPeople() {
        int found = 0;
        for (int seed = 0; seed < 40; seed++) {
            int first = Edges.draw(seed, 10) < 5 ? 2 : 1;
            int second = Edges.draw(Edges.nextSeed(seed), 10) < 5 ? 2 : 1;
            if (first != second) found++;
            ClapTogether x = Edges.hall("stop 0;tire 5");
            Edges.asked(x, FADING, 20, 99);
            Edges.clapper(x, 10);
            Edges.asked(x, FADING, 3, 99);
            x.seed(seed);
            x.tick(1);
            Edges.due("0 draws first", Edges.mood(x, 0), first);
            Edges.due("then 2", Edges.mood(x, 2), second);
        }
        Edges.due("some were found", found > 5 ? 1 : 0, 1);
    }

    private static void p20DrawnForEachFadingOneThatIsClapping() {
        for (int kind = 0; kind <= 6; kind++) {
            ClapTogether x = Edges.hall("stop 0;tire 0");
            x.person(kind, 0, 99, 1, 99);
            x.tick(1);
            Edges.due("quiet, kind " + kind, x.status(4), 1);
            x.begin(0);
            Edges.due("asked", x.status(4), 1);
            x.tick(1);
            Edges.due("clapping, kind " + kind, x.status(4), kind == FADING ? 1103527590 : 1);
        }
        ClapTogether x = Edges.hall("stop 0;tire 10");
        Edges.asked(x, FADING, 0, 99);
        x.tick(1);
        Edges.due("done", Edges.mood(x, 0), 2);
        x.tick(9);
        Edges.due("done ones don't draw", x.status(4), 1103527590);
    }

    private static void p20OneThatBeginsDoesntDraw() {
        ClapTogether x = Edges.hall("stop 0;tire 0;catch 1");
        x.person(FADING, 0, 99, 1, 99);
        Edges.clapper(x, 1);
        x.tick(1);
        Edges.due("begins", Edges.mood(x, 0), 1);
        Edges.due("no draw", x.status(4), 1);
        x.tick(1);
        Edges.due("then a draw", x.status(4), 1103527590);
    }

    private static void p20DrawnFirstWhateverElseStopsIt() {
        ClapTogether x = Edges.hall("stop 99;tire 0");
        Edges.asked(x, FADING, 0, 99);
        x.tick(1);
        Edges.due("left", Edges.mood(x, 0), 2);
        Edges.due("drawn", x.status(4), 1103527590);
        x = Edges.hall("stop 0;tire 0");
        Edges.asked(x, FADING, 0, 0);
        x.tick(2);
        Edges.due("as CLAP", Edges.mood(x, 0), 2);
        Edges.due("drawn twice", x.status(4), Edges.nextSeed(1103527590));
    }

    private static void p20PoliteIfTicksAreHalf() {
        int[] halves = {0, 1, 2, 20, 99};
        for (int half : halves) {
            ClapTogether x = Edges.hall("stop 99;half " + half);
            Edges.asked(x, POLITE, 0, 0);
            if (half > 0) Edges.due("till half", x.tick(half), 1);
            Edges.due("for half", x.personOf(0, 7), half);
            Edges.due("at half " + half, x.tick(1), 0);
            Edges.due("done", Edges.mood(x, 0), 2);
        }
    }

    // ---- all at once

    private static void p20BeginsByHowAllWasAhead() {
        for (int down = 0; down <= 1; down++) {
            ClapTogether x = Edges.hall("catch 12;stop 0");
            // from FAR 2 it is 4 and 6 alone
            for (int i = 0; i < 3; i++) x.person(CAUGHT, down == 1 ? 2 - i : i, 60, 1, 0);
            x.begin(down == 1 ? 2 : 0);
            for (int t = 1; t <= 2; t++) Edges.due("one by one", x.tick(1), t + 1);
        }
    }

    private static void p20StopsByHowAllWasAhead() {
        for (int down = 0; down <= 1; down++) {
            ClapTogether x = Edges.hall("stop 6");
            Edges.asked(x, CAUGHT, 0, down == 1 ? 99 : 0);
            Edges.asked(x, CAUGHT, 1, down == 1 ? 0 : 99);
            Edges.due("both go on", x.tick(1), 2);
            Edges.due("the one stops, still HEARD by the other", x.tick(1), 1);
            Edges.due("then the other", x.tick(1), 0);
        }
    }

    private static void p20OneThatStopsIsHeardByOneThatBegins() {
        for (int down = 0; down <= 1; down++) {
            ClapTogether x = Edges.hall("catch 6");
            for (int i = 0; i < 2; i++) {
                if (i == down) x.person(CAUGHT, 40, 0, 1, 99);
                else x.person(CLAP, 1, 0, 1, 99);
            }
            x.begin(1 - down);
            Edges.due("goes on", x.tick(1), 1);
            x.move(down, 0);
            Edges.due("one stops and one begins", x.tick(1), 1);
            Edges.due("begins", Edges.mood(x, down), 1);
            Edges.due("stops", Edges.mood(x, 1 - down), 2);
        }
    }

    private static void p20NowIs1More() {
        ClapTogether x = new ClapTogether();
        for (int t = 0; t < 5; t++) {
            Edges.due("NOW", x.status(3), t);
            x.tick(1);
        }
    }
}
