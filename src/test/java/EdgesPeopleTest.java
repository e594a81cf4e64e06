/** The edges of promises 9 to 14: people come, are told of, move and are altered. */
public final class EdgesPeopleTest {
    private static final int MIN = Edges.MIN;
    private static final int MAX = Edges.MAX;
    // the shelves of a furnished hall
    private static final int INTS_5 = 2;
    private static final int PERSON_1 = 4;
    private static final int EMPTY = 5;
    private static final int INTS_0 = 6;
    private static final int BYTES_100 = 7;

    public static void main(String[] args) throws Exception {
        Edges.run(EdgesPeopleTest.class);
    }

    // ---- promise 9

    private static void comes(int kind, int seat, int likes, int pace, int at) {
        ClapTogether x = new ClapTogether();
        Edges.answers(0, x, y -> y.person(kind, seat, likes, pace, at));
        int[] want = {kind, seat, likes, pace, at, 0, 0, 0, 0, 0};
        for (int what = 0; what < 10; what++) Edges.due("personOf " + what, x.personOf(0, what), want[what]);
    }

    private static void p09KindsAre0To6() {
        int[] none = {-1, 7, 8, MIN, MAX};
        for (int kind : none) Edges.refused(-1, y -> y.person(kind, 20, 1, 1, 1));
        for (int kind = 0; kind <= 6; kind++) comes(kind, 20, 1, 1, 1);
    }

    private static void p09SeatsAre0To47() {
        int[] none = {-1, 48, 49, MIN, MAX};
        for (int seat : none) Edges.refused(-1, y -> y.person(0, seat, 1, 1, 1));
        for (int seat = 0; seat <= 47; seat++) comes(0, seat, 1, 1, 1);
    }

    private static void p09LikesAre0To99() {
        int[] wrong = {-1, 100, 101, MIN, MAX};
        for (int likes : wrong) Edges.refused(-6, y -> y.person(0, 20, likes, 1, 1));
        int[] right = {0, 1, 98, 99};
        for (int likes : right) comes(0, 20, likes, 1, 1);
    }

    private static void p09PacesAre1To9() {
        int[] wrong = {-1, 0, 10, 11, MIN, MAX};
        for (int pace : wrong) Edges.refused(-6, y -> y.person(0, 20, 1, pace, 1));
        for (int pace = 1; pace <= 9; pace++) comes(0, 20, 1, pace, 1);
    }

    private static void p09AtsAre0To99() {
        int[] wrong = {-1, 100, 101, MIN, MAX};
        for (int at : wrong) Edges.refused(-6, y -> y.person(1, 20, 1, 1, at));
        int[] right = {0, 1, 98, 99};
        for (int at : right) comes(1, 20, 1, 1, at);
    }

    private static void p09ASeatThatIsTaken() {
        int[] taken = {0, 1, 8, 9, 10, 16, 47};
        for (int seat : taken) Edges.refused(-6, y -> y.person(0, seat, 1, 1, 1));
        ClapTogether x = Edges.furnished();
        Edges.answers(7, x, y -> y.person(0, 46, 1, 1, 1));
        x.move(0, 20);
        Edges.refused(-6, () -> moved(), y -> y.person(0, 20, 1, 1, 1));
        Edges.answers(8, x, y -> y.person(0, 0, 1, 1, 1));
    }

    private static ClapTogether moved() {
        ClapTogether x = Edges.furnished();
        x.move(0, 20);
        return x;
    }

    private static void p09ThirtyAtMost() {
        Edges.refused(-7, Edges::full, y -> y.person(0, 40, 1, 1, 1));
        ClapTogether x = new ClapTogether();
        for (int i = 0; i < 30; i++) {
            int seat = 47 - i;
            int number = i;
            Edges.answers(number, x, y -> y.person(0, seat, 1, 1, 1));
        }
        Edges.due("people", x.status(0), 30);
        Edges.due("one more", x.person(0, 0, 1, 1, 1), -7);
        Edges.due("people", x.status(0), 30);
    }

    private static void p09RefusalsInTheirOrder() {
        Edges.refused(-1, y -> y.person(7, 0, 100, 0, 100));
        Edges.refused(-1, y -> y.person(0, 48, 100, 0, 100));
        Edges.refused(-1, Edges::full, y -> y.person(7, 0, 100, 0, 100));
        Edges.refused(-1, Edges::full, y -> y.person(0, -1, 1, 1, 1));
        Edges.refused(-6, Edges::full, y -> y.person(0, 40, 100, 1, 1));
        Edges.refused(-6, Edges::full, y -> y.person(0, 40, 1, 0, 1));
        Edges.refused(-6, Edges::full, y -> y.person(0, 40, 1, 1, 100));
        Edges.refused(-6, Edges::full, y -> y.person(0, 0, 1, 1, 1));
    }

    // ---- promise 10

    private static void p10ShelvesAre0To7() {
        int[] none = {-1, 8, MIN, MAX};
        for (int s : none) Edges.refused(-1, y -> y.people(s, 0, 5));
    }

    private static void p10AShelfWithAPersonOrNothing() {
        Edges.refused(-2, y -> y.people(PERSON_1, 0, 5));
        Edges.refused(-3, y -> y.people(EMPTY, 0, 5));
    }

    private static void p10SizesBelow0() {
        int[] below = {-1, -5, -10, MIN};
        for (int n : below) Edges.refused(-4, y -> y.people(INTS_5, 0, n));
    }

    private static void p10ElementsThatArentThere() {
        Edges.refused(-5, y -> y.people(INTS_5, -1, 5));
        Edges.refused(-5, y -> y.people(INTS_5, 1, 5));
        Edges.refused(-5, y -> y.people(INTS_5, 5, 5));
        Edges.refused(-5, y -> y.people(INTS_5, 0, 10));
        Edges.refused(-5, y -> y.people(INTS_5, MAX, 5));
        Edges.refused(-5, y -> y.people(INTS_5, MIN, 5));
        Edges.refused(-5, y -> y.people(INTS_5, 5, MAX));
        Edges.refused(-5, y -> y.people(INTS_5, -1, 0));
        Edges.refused(-5, y -> y.people(INTS_0, 0, 5));
    }

    private static void p10NoMultipleOfFive() {
        int[] wrong = {1, 2, 3, 4};
        for (int n : wrong) Edges.refused(-6, y -> y.people(INTS_5, 0, n));
        int[] more = {6, 9, 11, 99};
        for (int n : more) Edges.refused(-6, y -> y.people(BYTES_100, 0, n));
    }

    private static void p10NoElements() {
        Edges.unchanged(0, Edges::furnished, y -> y.people(INTS_5, 0, 0));
        Edges.unchanged(0, Edges::furnished, y -> y.people(INTS_5, 5, 0));
        Edges.unchanged(0, Edges::furnished, y -> y.people(INTS_0, 0, 0));
    }

    private static void p10FiveElementsEach() {
        ClapTogether x = new ClapTogether();
        Check.ints(x, 0, 9, 9, 6, 47, 99, 9, 99, 3, 0, 0, 1, 0, 9);
        Edges.answers(2, x, y -> y.people(0, 2, 10));
        int[][] want = {{6, 47, 99, 9, 99}, {3, 0, 0, 1, 0}};
        for (int i = 0; i < 10; i++) Edges.due("personOf " + i, x.personOf(i / 5, i % 5), want[i / 5][i % 5]);
        for (int i = 0; i < 10; i++) Edges.due("at first " + i, x.personOf(i / 5, 5 + i % 5), 0);
    }

    private static void p10NoMoreThanTheElements() {
        ClapTogether x = new ClapTogether();
        Check.ints(x, 0, 1, 5, 6, 7, 8, 1, 6, 6, 7, 8, 1, 7, 6, 7, 8, 1, 8, 6, 7, 8);
        Edges.answers(1, x, y -> y.people(0, 0, 5));
        Edges.due("people", x.status(0), 1);
        Edges.answers(2, x, y -> y.people(0, 5, 10));
        Edges.due("people", x.status(0), 3);
        Edges.answers(0, x, y -> y.people(0, 20, 0));
        Edges.due("people", x.status(0), 3);
    }

    private static void p10UntilOneThatCantBeOne() {
        int[][] wrong = {{0, -1}, {0, 7}, {1, -1}, {1, 48}, {2, -1}, {2, 100}, {3, 0}, {3, 10}, {4, -1}, {4, 100},
            {1, 20}, {1, 21}};
        for (int[] which : wrong) {
            for (int place = 0; place < 3; place++) {
                ClapTogether x = new ClapTogether();
                x.person(0, 20, 1, 1, 1);
                x.person(0, 21, 1, 1, 1);
                Check.ints(x, 0, 1, 5, 6, 7, 8, 1, 6, 6, 7, 8, 1, 7, 6, 7, 8);
                x.set(0, place * 5 + which[0], which[1]);
                int want = place;
                Edges.answers(want, x, y -> y.people(0, 0, 15));
                Edges.due("people", x.status(0), 2 + place);
                Edges.due("behind them", x.personOf(2 + place, 0), -5);
            }
        }
    }

    private static void p10ASeatTakenByOneOfTheSame() {
        ClapTogether x = new ClapTogether();
        Check.ints(x, 0, 1, 5, 6, 7, 8, 1, 6, 6, 7, 8, 1, 5, 6, 7, 8);
        Edges.answers(2, x, y -> y.people(0, 0, 15));
        Edges.due("people", x.status(0), 2);
    }

    private static void p10UntilThereIsNoRoom() {
        for (int there = 26; there <= 30; there++) {
            ClapTogether x = new ClapTogether();
            for (int i = 0; i < there; i++) x.person(0, i, 1, 1, 1);
            Check.ints(x, 0, 1, 40, 6, 7, 8, 1, 41, 6, 7, 8, 1, 42, 6, 7, 8);
            int want = Math.min(3, 30 - there);
            Edges.answers(want, x, y -> y.people(0, 0, 15));
            Edges.due("people", x.status(0), there + want);
        }
    }

    private static void p10OneHundredElements() {
        ClapTogether x = new ClapTogether();
        x.row(0, 0, 100);
        for (int i = 0; i < 20; i++) {
            x.set(0, i * 5 + 1, 40 - i);
            x.set(0, i * 5 + 3, 1);
        }
        Edges.answers(20, x, y -> y.people(0, 0, 100));
        Edges.due("the last", x.personOf(19, 1), 21);
    }

    private static void p10OfLongsTheLowest32Bits() {
        ClapTogether x = new ClapTogether();
        x.row(0, 3, 10);
        long[] wide = {0x100000006L, -0x100000000L + 47, 0x7FFFFFFF00000063L, Long.MIN_VALUE + 9, 0x200000000L,
            0x100000000L, 0xFFFFFFFFL, 1, 1, 1};
        for (int i = 0; i < 10; i++) x.set(0, i, wide[i]);
        Edges.answers(1, x, y -> y.people(0, 0, 10));
        int[] want = {6, 47, 99, 9, 0};
        for (int i = 0; i < 5; i++) Edges.due("personOf " + i, x.personOf(0, i), want[i]);
    }

    private static void p10RefusalsInTheirOrder() {
        Edges.refused(-1, y -> y.people(8, -1, -1));
        Edges.refused(-2, y -> y.people(PERSON_1, -1, -1));
        Edges.refused(-3, y -> y.people(EMPTY, -1, -1));
        Edges.refused(-4, y -> y.people(INTS_5, -1, -1));
        Edges.refused(-4, y -> y.people(INTS_5, 9, -3));
        Edges.refused(-5, y -> y.people(INTS_5, -1, 3));
        Edges.refused(-5, y -> y.people(INTS_5, 0, 6));
        Edges.refused(-5, y -> y.people(BYTES_100, 0, 101));
    }

    // ---- promise 11

    private static void p11PeopleThatAre() {
        int[] none = {-1, 7, 8, 29, 30, MIN, MAX};
        for (int person : none) {
            for (int what = 0; what <= 9; what++) {
                int which = what;
                if (what % 9 == 0) Edges.refused(-5, y -> y.personOf(person, which));
            }
        }
        Edges.refused(-5, ClapTogether::new, y -> y.personOf(0, 0));
        Edges.refused(-5, Edges::full, y -> y.personOf(30, 0));
        Edges.unchanged(47, Edges::furnished, y -> y.personOf(6, 1));
        Edges.unchanged(29, Edges::full, y -> y.personOf(29, 1));
    }

    private static void p11WhatIs0To9() {
        int[] none = {-1, 10, 11, MIN, MAX};
        for (int what : none) Edges.refused(-5, y -> y.personOf(1, what));
        int[] want = {2, 1, 90, 2, 0, 0, 1, 1, 1, 1};
        for (int what = 0; what <= 9; what++) {
            int which = what;
            Edges.unchanged(want[what], Edges::furnished, y -> y.personOf(1, which));
        }
    }

    private static void p11QuietClappingDone() {
        ClapTogether x = new ClapTogether();
        x.person(0, 0, 1, 1, 0);
        int[][] want = {{0, 0}, {1, 0}, {1, 1}, {1, 2}, {2, 0}, {2, 0}};
        for (int i = 0; i < want.length; i++) {
            if (i == 1) x.begin(0);
            if (i > 1) x.tick(1);
            Edges.due("mood " + i, x.personOf(0, 6), want[i][0]);
            Edges.due("ticks " + i, x.personOf(0, 7), want[i][1]);
        }
    }

    // ---- promise 12

    private static void p12PeopleThatAre() {
        int[] none = {-1, 7, 30, MIN, MAX};
        for (int person : none) Edges.refused(-1, y -> y.move(person, 20));
        ClapTogether x = Edges.full();
        Edges.answers(29, x, y -> y.move(29, 47));
        Edges.answers(0, x, y -> y.move(0, 46));
    }

    private static void p12SeatsAre0To47() {
        int[] none = {-1, 48, MIN, MAX};
        for (int seat : none) Edges.refused(-1, y -> y.move(1, seat));
        ClapTogether x = new ClapTogether();
        x.person(0, 20, 1, 1, 1);
        Edges.answers(20, x, y -> y.move(0, 0));
        Edges.answers(0, x, y -> y.move(0, 47));
        Edges.answers(47, x, y -> y.move(0, 1));
    }

    private static void p12ASeatThatIsTaken() {
        for (int other : new int[] {0, 8, 47}) Edges.refused(-6, y -> y.move(1, other));
    }

    private static void p12ASeatTakenByItself() {
        Edges.refused(-6, y -> y.move(1, 1));
        Edges.refused(-6, y -> y.move(6, 47));
    }

    private static void p12TheSeatLeftIsFree() {
        ClapTogether x = Edges.furnished();
        Edges.answers(0, x, y -> y.move(0, 20));
        Edges.answers(1, x, y -> y.move(1, 0));
        Edges.answers(7, x, y -> y.person(0, 1, 1, 1, 1));
    }

    private static void p12OnlyTheSeatChanges() {
        ClapTogether x = Edges.furnished();
        ClapTogether still = Edges.furnished();
        x.move(1, 30);
        for (int what = 0; what <= 9; what++) {
            Edges.due("personOf " + what, x.personOf(1, what), what == 1 ? 30 : still.personOf(1, what));
        }
        Edges.due("hits", x.hits(), still.hits());
    }

    private static void p12RefusalsInTheirOrder() {
        Edges.refused(-1, y -> y.move(-1, 0));
        Edges.refused(-1, y -> y.move(7, 48));
        Edges.refused(-1, y -> y.move(0, 48));
    }

    // ---- promise 13

    private static ClapTogether pacing() {
        ClapTogether x = new ClapTogether();
        x.person(4, 11, 50, 9, 30);
        x.alter(0, 3, 8);
        return x;
    }

    private static void p13PeopleThatAre() {
        int[] none = {-1, 7, 30, MIN, MAX};
        for (int person : none) {
            for (int what = -1; what <= 4; what++) {
                int which = what;
                Edges.refused(-1, y -> y.alter(person, which, which == 2 ? 500 : 1));
            }
        }
    }

    private static void p13WhatIs0To3() {
        int[] none = {-1, 4, 5, 6, 9, MIN, MAX};
        for (int what : none) Edges.refused(-6, y -> y.alter(1, what, 1));
    }

    private static void alters(int what, int was, int v) {
        ClapTogether x = pacing();
        Edges.answers(was, x, y -> y.alter(0, what, v));
        Edges.due("altered", x.personOf(0, 2 + (what == 3 ? 3 : what)), v);
        Edges.answers(v, x, y -> y.alter(0, what, v));
    }

    private static void p13LikesAre0To99() {
        int[] wrong = {-1, 100, MIN, MAX};
        for (int v : wrong) Edges.refused(-6, y -> y.alter(1, 0, v));
        int[] right = {0, 1, 50, 98, 99};
        for (int v : right) alters(0, 50, v);
    }

    private static void p13PacesAre1To9() {
        int[] wrong = {-1, 0, 10, MIN, MAX};
        for (int v : wrong) Edges.refused(-6, EdgesPeopleTest::pacing, y -> y.alter(0, 1, v));
        for (int v = 1; v <= 9; v++) alters(1, 9, v);
    }

    private static void p13PhaseModuloThePaceThen() {
        for (int phase = 0; phase <= 8; phase++) {
            for (int pace = 1; pace <= 9; pace++) {
                ClapTogether x = pacing();
                x.alter(0, 3, phase);
                x.alter(0, 1, pace);
                Edges.due("phase " + phase + " by pace " + pace, x.personOf(0, 5), phase % pace);
                x.alter(0, 1, 9);
                Edges.due("and it stays", x.personOf(0, 5), phase % pace);
            }
        }
    }

    private static void p13AtsAre0To99() {
        int[] wrong = {-1, 100, MIN, MAX};
        for (int v : wrong) Edges.refused(-6, y -> y.alter(1, 2, v));
        int[] right = {0, 1, 30, 98, 99};
        for (int v : right) alters(2, 30, v);
    }

    private static void p13PhasesBelowPace() {
        int[] wrong = {-1, 9, 10, MIN, MAX};
        for (int v : wrong) Edges.refused(-6, EdgesPeopleTest::pacing, y -> y.alter(0, 3, v));
        for (int v = 0; v <= 8; v++) alters(3, 8, v);
        for (int pace = 1; pace <= 9; pace++) {
            ClapTogether x = pacing();
            x.alter(0, 1, pace);
            int limit = pace;
            Edges.due("at pace", x.alter(0, 3, pace), -6);
            int was = 8 % pace;
            Edges.answers(was, x, y -> y.alter(0, 3, limit - 1));
        }
    }

    private static void p13OnlyThatChanges() {
        ClapTogether still = Edges.furnished();
        for (int what = 0; what <= 3; what++) {
            ClapTogether x = Edges.furnished();
            x.alter(1, what, 1);
            int trait = what == 3 ? 5 : 2 + what;
            for (int i = 0; i <= 9; i++) {
                Edges.due("personOf " + i, x.personOf(1, i), i == trait ? 1 : still.personOf(1, i));
            }
        }
    }

    // ---- promise 14

    private static void p14PeopleThatAre() {
        int[] none = {-1, 7, 30, MIN, MAX};
        for (int person : none) {
            Edges.refused(-1, y -> y.glove(person, true));
            Edges.refused(-1, y -> y.glove(person, false));
        }
        ClapTogether x = Edges.full();
        Edges.answers(1, x, y -> y.glove(29, true));
        Edges.due("the last", x.personOf(29, 9), 1);
        Edges.due("the one ahead", x.personOf(28, 9), 0);
    }

    private static void p14IfItWasSo() {
        Edges.unchanged(0, Edges::furnished, y -> y.glove(1, true));
        Edges.unchanged(0, Edges::furnished, y -> y.glove(0, false));
        ClapTogether x = Edges.furnished();
        Edges.answers(1, x, y -> y.glove(1, false));
        Edges.answers(0, x, y -> y.glove(1, false));
        Edges.answers(1, x, y -> y.glove(1, true));
        Edges.due("has it", x.personOf(1, 9), 1);
    }
}
