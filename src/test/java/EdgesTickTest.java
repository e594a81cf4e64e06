/** The edges of promise 20 behind who begins and stops: HITS, PHASES, who STANDS; and of promises 21 to 27. */
public final class EdgesTickTest {
    private static final int MIN = Edges.MIN;
    private static final int MAX = Edges.MAX;
    private static final int CLAP = 0;
    private static final int FIRST = 1;
    private static final int CAUGHT = 2;
    private static final int BEATING = 4;

    public static void main(String[] args) throws Exception {
        Edges.run(EdgesTickTest.class);
    }

    // ---- HITS

    private static void p20HitsIfNowAndPhaseModuloPaceAre0() {
        for (int pace = 1; pace <= 9; pace++) {
            ClapTogether x = new ClapTogether();
            for (int phase = 0; phase < pace; phase++) {
                x.person(CLAP, phase, 99, pace, 0);
                x.alter(phase, 3, phase);
                x.begin(phase);
            }
            for (int now = 0; now < 20; now++) {
                x.tick(1);
                int want = 0;
                for (int phase = 0; phase < pace; phase++) {
                    if ((now + phase) % pace == 0) want |= 1 << phase;
                }
                Edges.due("pace " + pace + ", NOW " + now, x.hits(), want);
            }
        }
    }

    private static void p20HitsAtNow9998() {
        ClapTogether x = new ClapTogether();
        for (int i = 0; i < 99; i++) x.tick(100);
        x.tick(98);
        for (int pace = 1; pace <= 9; pace++) {
            x.person(CLAP, pace, 99, pace, 0);
            x.begin(pace - 1);
        }
        x.tick(1);
        // 9,998 is 2 times 4,999, which is a prime
        Edges.due("hits", x.hits(), 3);
    }

    private static void p20HitsOfThoseClappingNow() {
        ClapTogether x = new ClapTogether();
        x.person(FIRST, 0, 0, 1, 1);
        x.tick(1);
        Edges.due("quiet", x.hits(), 0);
        x.tick(1);
        Edges.due("begins", x.hits(), 1);
        x.tick(1);
        Edges.due("goes on", x.hits(), 1);
        x.tick(1);
        Edges.due("stops", x.hits(), 0);
        x.tick(1);
        Edges.due("done", x.hits(), 0);
    }

    // ---- BEATING ones and their PHASE

    /** The phase of a BEATING one that doesn't hit, with so many that hit and so many more that don't. */
    private static int phaseWith(int hitting, int others, int pace, int phase) {
        ClapTogether x = Edges.hall("stop 0");
        x.person(BEATING, 20, 79, pace, 0);
        x.alter(0, 3, phase);
        x.begin(0);
        for (int i = 0; i < hitting + others; i++) {
            x.person(CLAP, i, 79, i < hitting ? 1 : 9, 0);
            x.alter(1 + i, 3, i < hitting ? 0 : 1);
            x.begin(1 + i);
        }
        x.tick(1);
        Edges.due("step", x.step(), 100 * (hitting + (phase == 0 ? 1 : 0)) / (1 + hitting + others));
        return x.personOf(0, 5);
    }

    private static void p20PhaseIfMoreThanHalfHit() {
        for (int hitting = 0; hitting <= 5; hitting++) {
            for (int others = 0; others <= 5; others++) {
                boolean isMore = 2 * hitting > 1 + hitting + others;
                Edges.due(hitting + " hit, " + others + " more don't", phaseWith(hitting, others, 9, 3), isMore ? 4 : 3);
            }
        }
    }

    private static void p20PhaseModuloPace() {
        for (int pace = 2; pace <= 9; pace++) {
            Edges.due("from the last by pace " + pace, phaseWith(3, 0, pace, pace - 1), 0);
            if (pace > 2) Edges.due("ahead of the last", phaseWith(3, 0, pace, pace - 2), pace - 1);
        }
    }

    private static void p20PhaseOfOneThatHitsStays() {
        for (int pace = 1; pace <= 9; pace++) Edges.due("pace " + pace, phaseWith(3, 0, pace, 0), 0);
    }

    private static void p20PhaseOfBeatingOnesAlone() {
        for (int kind = 0; kind <= 6; kind++) {
            ClapTogether x = Edges.hall("stop 0;tire 0");
            x.person(kind, 20, 79, 5, 99);
            x.alter(0, 3, 2);
            x.begin(0);
            for (int i = 0; i < 3; i++) Edges.clapper(x, i);
            x.tick(1);
            Edges.due("kind " + kind, x.personOf(0, 5), kind == BEATING ? 3 : 2);
        }
    }

    private static void p20PhaseOfThoseClappingNow() {
        ClapTogether x = Edges.hall("stop 0;catch 99");
        x.person(BEATING, 20, 0, 5, 99);
        x.alter(0, 3, 2);
        for (int i = 0; i < 3; i++) Edges.clapper(x, i);
        x.tick(1);
        Edges.due("quiet", x.personOf(0, 5), 2);
        x.begin(0);
        x.tick(1);
        Edges.due("clapping, NOW 1", x.personOf(0, 5), 3);
        x.tick(1);
        Edges.due("stops", Edges.mood(x, 0), 2);
        Edges.due("stops", x.personOf(0, 5), 3);
        x = Edges.hall("stop 0;catch 1");
        x.person(BEATING, 9, 99, 5, 99);
        x.alter(0, 3, 2);
        for (int i = 0; i < 3; i++) Edges.clapper(x, i);
        x.tick(1);
        Edges.due("begins", x.personOf(0, 5), 3);
    }

    private static void p20HitsByThePhaseAheadOfItsChange() {
        ClapTogether x = Edges.hall("stop 0");
        x.person(BEATING, 20, 79, 3, 0);
        x.alter(0, 3, 1);
        x.begin(0);
        for (int i = 0; i < 3; i++) Edges.clapper(x, i);
        x.tick(1);
        Edges.due("NOW 0 and PHASE 1 is no hit", x.hits(), 14);
        Edges.due("PHASE", x.personOf(0, 5), 2);
        x.tick(1);
        Edges.due("NOW 1 and PHASE 2 is a hit", x.hits(), 15);
        Edges.due("PHASE", x.personOf(0, 5), 2);
    }

    // ---- STANDS

    private static void p20LikesAreStandAtLeast() {
        int[] all = {1, 50, 80, 98, 99};
        for (int stand : all) {
            for (int likes = stand - 1; likes <= Math.min(99, stand + 1); likes++) {
                ClapTogether x = Edges.hall("stand " + stand);
                Edges.asked(x, CLAP, 0, likes);
                Edges.due("not by being asked", x.personOf(0, 8), 0);
                x.tick(1);
                Edges.due("LIKES " + likes + " by stand " + stand, x.personOf(0, 8), likes >= stand ? 1 : 0);
            }
        }
        ClapTogether x = Edges.hall("stand 0");
        Edges.asked(x, CLAP, 0, 0);
        x.tick(1);
        Edges.due("LIKES 0 by stand 0", x.personOf(0, 8), 1);
    }

    private static void p20StandsIfClappingNow() {
        ClapTogether x = Edges.hall("stand 0");
        x.person(CLAP, 0, 99, 1, 0);
        x.person(FIRST, 40, 99, 1, 1);
        x.tick(1);
        Edges.due("quiet", x.many(2), 0);
        x.tick(1);
        Edges.due("begins", x.personOf(1, 8), 1);
        x = Edges.hall("stand 1");
        Edges.asked(x, CLAP, 0, 0);
        x.tick(1);
        x.alter(0, 0, 1);
        x.tick(1);
        Edges.due("goes on", x.personOf(0, 8), 1);
        x = Edges.hall("stand 0");
        Edges.asked(x, CAUGHT, 0, 99);
        x.tick(1);
        Edges.due("stops", Edges.mood(x, 0), 2);
        Edges.due("stops", x.personOf(0, 8), 0);
    }

    private static void p20StandsOnFromThen() {
        ClapTogether x = new ClapTogether();
        Edges.asked(x, CLAP, 0, 80);
        x.tick(1);
        x.alter(0, 0, 0);
        x.tick(100);
        Edges.due("done", Edges.mood(x, 0), 2);
        Edges.due("stands on", x.personOf(0, 8), 1);
        x.move(0, 47);
        x.tick(1);
        Edges.due("elsewhere too", x.personOf(0, 8), 1);
    }

    /** Whether one stands on a seat by those who stood on such seats, by see. */
    private static int standsBehind(int see, int seat, int... before) {
        ClapTogether x = Edges.hall("stand 80;see " + see);
        for (int at : before) Edges.asked(x, CLAP, at, 80);
        int person = x.person(CLAP, seat, 79, 1, 0);
        x.tick(1);
        Edges.due("not by those who stand from this tick on", x.personOf(person, 8), 0);
        x.tick(1);
        return x.personOf(person, 8);
    }

    private static void p20SeeOfTheThreeBefore() {
        for (int see = 0; see <= 4; see++) {
            for (int bits = 0; bits < 8; bits++) {
                int[] before = new int[Integer.bitCount(bits)];
                int n = 0;
                for (int i = 0; i < 3; i++) {
                    if ((bits >> i & 1) == 1) before[n++] = 10 + i;
                }
                int want = n >= Math.max(see, 1) ? 1 : 0;
                Edges.due("see " + see + " of " + bits, standsBehind(see, 19, before), want);
            }
        }
        Edges.due("see 99", standsBehind(99, 19, 10, 11, 12), 0);
    }

    private static void p20SeeIs1IfItIs0() {
        Edges.due("nobody", standsBehind(0, 19), 0);
        Edges.due("one", standsBehind(0, 19, 11), 1);
    }

    private static void p20NoSeatsBeforeButThose() {
        for (int at = 0; at <= 47; at++) {
            if (at == 19) continue;
            boolean isBefore = at >= 10 && at <= 12;
            Edges.due("seat " + at, standsBehind(1, 19, at), isBefore ? 1 : 0);
        }
    }

    private static void p20PlacesDontWrap() {
        for (int seat = 8; seat <= 47; seat += 7) {
            for (int at = Math.max(0, seat - 10); at < seat; at++) {
                boolean isBefore = seat / 8 - at / 8 == 1 && Math.abs(seat % 8 - at % 8) <= 1;
                Edges.due("seat " + at + " before " + seat, standsBehind(1, seat, at), isBefore ? 1 : 0);
            }
        }
        Edges.due("two before place 0", standsBehind(2, 8, 0, 1), 1);
        Edges.due("no third before place 0", standsBehind(3, 8, 0, 1, 7), 0);
        Edges.due("two before place 7", standsBehind(2, 15, 6, 7), 1);
        Edges.due("no third before place 7", standsBehind(3, 15, 6, 7, 8), 0);
    }

    private static void p20NobodyIsBeforeRow0() {
        for (int seat = 0; seat <= 7; seat++) {
            int[] others = {seat == 0 ? 1 : 0, seat == 7 ? 6 : 7, 8 + seat, 40 + seat};
            Edges.due("seat " + seat, standsBehind(0, seat, others), 0);
        }
    }

    private static void p20OneRowATick() {
        ClapTogether x = Edges.hall("see 1");
        for (int row = 0; row < 6; row++) x.person(CLAP, 8 * (5 - row) + 3, row == 5 ? 80 : 0, 1, 0);
        x.begin(5);
        for (int t = 1; t <= 6; t++) {
            x.tick(1);
            Edges.due("rows that stand", x.many(2), t);
        }
    }

    // ---- promise 21

    private static void p21PeopleThatAre() {
        int[] none = {-1, 7, 30, MIN, MAX};
        for (int person : none) Edges.refused(-1, y -> y.begin(person));
        ClapTogether x = Edges.full();
        Edges.answers(1, x, y -> y.begin(29));
        Edges.answers(1, x, y -> y.begin(0));
        Edges.due("clapping", x.many(0), 2);
    }

    private static ClapTogether doneOne() {
        ClapTogether x = Edges.furnished();
        x.alter(0, 0, 0);
        x.tick(2);
        return x;
    }

    private static void p21OneThatIsClapping() {
        Edges.refused(-6, y -> y.begin(0));
        Edges.refused(-6, () -> justAsked(), y -> y.begin(6));
    }

    private static ClapTogether justAsked() {
        ClapTogether x = Edges.furnished();
        x.begin(6);
        return x;
    }

    private static void p21OneThatIsDone() {
        Edges.due("done", Edges.mood(doneOne(), 0), 2);
        Edges.refused(-6, EdgesTickTest::doneOne, y -> y.begin(0));
    }

    private static void p21For0TicksAtOnce() {
        ClapTogether x = Edges.furnished();
        int hits = x.hits();
        int seed = x.status(4);
        Edges.answers(1, x, y -> y.begin(6));
        Edges.due("clapping", x.personOf(6, 6), 1);
        Edges.due("for 0 ticks", x.personOf(6, 7), 0);
        Edges.due("no hit", x.hits(), hits);
        Edges.due("no draw", x.status(4), seed);
        Edges.due("doesn't stand", x.personOf(6, 8), 0);
    }

    // ---- promise 22

    private static void p22AllThatItDoes() {
        ClapTogether x = doneOne();
        x.begin(6);
        int not = 0;
        for (int i = 0; i < 7; i++) if (Edges.mood(x, i) != 0) not++;
        int seed = x.status(4);
        int want = not;
        Edges.answers(want, x, ClapTogether::hush);
        for (int i = 0; i < 7; i++) {
            for (int what = 5; what <= 8; what++) Edges.due(i + ", " + what, x.personOf(i, what), 0);
        }
        Edges.due("NOW", x.status(3), 0);
        Edges.due("hits", x.hits(), 0);
        Edges.due("many hit", x.many(1), 0);
        Edges.due("step", x.step(), 0);
        Edges.due("sum", x.sum(0), 0);
        Edges.due("seed", x.status(4), seed);
        Edges.due("glove", x.personOf(1, 9), 1);
        Edges.due("force", x.force(1), 0);
        Edges.answers(0, x, ClapTogether::hush);
    }

    private static void p22Nobody() {
        Edges.unchanged(0, ClapTogether::new, ClapTogether::hush);
    }

    private static void p22ClappingAndDoneOnesAreCounted() {
        for (int clapping = 0; clapping <= 3; clapping++) {
            ClapTogether x = new ClapTogether();
            for (int i = 0; i < 5; i++) x.person(CLAP, i, i == 4 ? 0 : 99, 1, 0);
            for (int i = 0; i < clapping; i++) x.begin(i);
            x.begin(4);
            x.tick(2);
            Edges.due("done", Edges.mood(x, 4), 2);
            int want = clapping + 1;
            Edges.answers(want, x, ClapTogether::hush);
            Edges.answers(1, x, y -> y.begin(4));
        }
    }

    private static void p22From9999() {
        ClapTogether x = new ClapTogether();
        for (int i = 0; i < 99; i++) x.tick(100);
        x.tick(99);
        x.hush();
        Edges.answers(0, x, y -> y.tick(100));
        Edges.due("NOW", x.status(3), 100);
    }

    // ---- promise 23

    private static void p23PeopleThatAre() {
        int[] none = {-1, 7, 30, MIN, MAX};
        for (int person : none) Edges.refused(-1, y -> y.heard(person));
        Edges.unchanged(0, Edges::full, y -> y.heard(29));
    }

    private static void p23TwelveBy1AndFarCut() {
        int[] heard = {0, 6, 4, 3, 2, 2, 1, 1, 1, 1, 1, 1, 0};
        int[] seats = {0, 47, 27};
        for (int seat : seats) {
            for (int at = 0; at <= 47; at++) {
                if (at == seat) continue;
                ClapTogether x = new ClapTogether();
                x.person(CLAP, seat, 0, 1, 0);
                Edges.clapper(x, at);
                int far = Math.abs(seat / 8 - at / 8) + Math.abs(seat % 8 - at % 8);
                Edges.answers(heard[far], x, y -> y.heard(0));
                Edges.due("the other hears nobody", x.heard(1), 0);
            }
        }
    }

    private static void p23EachCutThenTogether() {
        ClapTogether x = new ClapTogether();
        x.person(CLAP, 0, 0, 1, 0);
        // FAR 4 five times: 2 each, not 12 by 5 times 5
        int[] seats = {4, 11, 18, 25, 32};
        for (int at : seats) Edges.clapper(x, at);
        Edges.answers(10, x, y -> y.heard(0));
    }

    private static void p23OfOthersThatAreClapping() {
        ClapTogether x = new ClapTogether();
        x.person(CLAP, 0, 99, 1, 0);
        x.person(CLAP, 1, 0, 1, 0);
        Edges.answers(0, x, y -> y.heard(0));
        x.begin(0);
        Edges.answers(0, x, y -> y.heard(0));
        x.begin(1);
        Edges.answers(6, x, y -> y.heard(0));
        x.tick(2);
        Edges.due("done", Edges.mood(x, 1), 2);
        Edges.answers(0, x, y -> y.heard(0));
    }

    // ---- promise 24

    private static void p24PeopleThatAre() {
        int[] none = {-1, 7, 30, MIN, MAX};
        for (int person : none) Edges.refused(-1, y -> y.beside(person));
        Edges.unchanged(0, Edges::full, y -> y.beside(29));
    }

    private static void p24SeatsWithFar1() {
        int[] seats = {0, 7, 8, 15, 40, 47, 27};
        for (int seat : seats) {
            for (int at = 0; at <= 47; at++) {
                if (at == seat) continue;
                ClapTogether x = new ClapTogether();
                x.person(CLAP, seat, 0, 1, 0);
                Edges.clapper(x, at);
                int far = Math.abs(seat / 8 - at / 8) + Math.abs(seat % 8 - at % 8);
                int want = far == 1 ? 1 : 0;
                Edges.due("from " + seat + " to " + at, x.beside(0), want);
            }
        }
    }

    private static void p24FourAtMost() {
        ClapTogether x = new ClapTogether();
        x.person(CLAP, 27, 0, 1, 0);
        int[] seats = {19, 26, 28, 35, 18, 20, 34, 36};
        for (int i = 0; i < seats.length; i++) {
            Edges.clapper(x, seats[i]);
            int want = Math.min(4, i + 1);
            Edges.answers(want, x, y -> y.beside(0));
        }
        x.begin(0);
        Edges.answers(4, x, y -> y.beside(0));
    }

    // ---- promise 25

    private static void p25WhatIs0To3() {
        int[] none = {-1, 4, 5, MIN, MAX};
        for (int what : none) Edges.refused(-5, y -> y.many(what));
        ClapTogether x = new ClapTogether();
        int[] likes = {99, 98, 97, 79, 78, 0, 0, 80};
        for (int i = 0; i < 8; i++) x.person(CLAP, 40 + i, likes[i], i < 3 ? 1 : 2, 0);
        for (int i = 0; i < 7; i++) x.begin(i);
        x.tick(2);
        // 5 go on, 3 of them by pace 1; the three that like it stand; two are done, one is quiet
        int[] want = {5, 3, 3, 2};
        for (int what = 0; what <= 3; what++) {
            int which = what;
            Edges.answers(want[what], x, y -> y.many(which));
        }
    }

    private static void p25Nobody() {
        for (int what = 0; what <= 3; what++) {
            int which = what;
            Edges.unchanged(0, ClapTogether::new, y -> y.many(which));
        }
    }

    // ---- promises 26, 27

    private static void p26BitsOfAllThirty() {
        ClapTogether x = new ClapTogether();
        for (int i = 0; i < 30; i++) {
            x.person(CLAP, i, 99, 1 + i % 2, 0);
            x.begin(i);
        }
        Edges.answers(0, x, ClapTogether::hits);
        x.tick(1);
        Edges.answers((1 << 30) - 1, x, ClapTogether::hits);
        x.tick(1);
        Edges.answers(0x15555555, x, ClapTogether::hits);
        x = new ClapTogether();
        for (int i = 0; i < 30; i++) x.person(CLAP, i, 99, 1, 0);
        x.begin(29);
        x.tick(1);
        Edges.answers(1 << 29, x, ClapTogether::hits);
    }

    private static void p26NoneAtFirst() {
        Edges.unchanged(0, ClapTogether::new, ClapTogether::hits);
        Edges.unchanged(0, Edges::full, ClapTogether::hits);
    }

    private static void p26OfTheLastTickAlone() {
        ClapTogether x = new ClapTogether();
        Edges.asked(x, CLAP, 0, 99);
        x.alter(0, 1, 2);
        x.tick(1);
        Edges.answers(1, x, ClapTogether::hits);
        x.tick(1);
        Edges.answers(0, x, ClapTogether::hits);
        x.tick(2);
        Edges.answers(0, x, ClapTogether::hits);
        x.tick(1);
        Edges.answers(1, x, ClapTogether::hits);
    }

    private static void p27CutAnd0IfNone() {
        Edges.unchanged(0, ClapTogether::new, ClapTogether::step);
        for (int clapping = 0; clapping <= 7; clapping++) {
            for (int hitting = 0; hitting <= clapping; hitting++) {
                ClapTogether x = new ClapTogether();
                for (int i = 0; i < clapping; i++) {
                    x.person(CLAP, i, 99, 2, 0);
                    if (i >= hitting) x.alter(i, 3, 1);
                    x.begin(i);
                }
                x.tick(1);
                int want = clapping == 0 ? 0 : 100 * hitting / clapping;
                Edges.answers(want, x, ClapTogether::step);
            }
        }
    }

    private static void p27OfTheLastTickWhateverComesThen() {
        ClapTogether x = new ClapTogether();
        Edges.asked(x, CLAP, 0, 99);
        x.person(CLAP, 1, 99, 9, 0);
        x.tick(1);
        x.begin(1);
        x.alter(0, 1, 9);
        Edges.answers(100, x, ClapTogether::step);
        x.tick(1);
        Edges.answers(0, x, ClapTogether::step);
    }
}
