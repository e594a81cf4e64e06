/** Promises 20 to 27: ticks, who begins, stops, hits, falls into step and stands; asked, hushed, heard. */
public final class TickTest {
    private static final Check check = new Check();

    public static void main(String[] args) {
        ticks();
        clapAndFirst();
        caught();
        besideHim();
        fading();
        polite();
        allAtOnce();
        hitsAndSteps();
        beating();
        standing();
        beginAndHush();
        heardAndBeside();
        check.end();
    }

    private static int mood(ClapTogether x, int person) {
        return x.personOf(person, 6);
    }

    /** A hall by laws of its own, with CLAP ones of many likes that clap at once at each of these seats. */
    private static ClapTogether hall(String laws, int... seats) {
        ClapTogether x = new ClapTogether();
        if (!laws.isEmpty()) x.force(Check.laws(x, laws));
        for (int seat : seats) x.begin(x.person(0, seat, 79, 1, 0));
        return x;
    }

    private static void ticks() {
        ClapTogether x = new ClapTogether();
        check.due("tick 0", x.tick(0), -6);
        check.due("tick -1", x.tick(-1), -6);
        check.due("tick 101", x.tick(101), -6);
        check.due("tick most", x.tick(Integer.MAX_VALUE), -6);
        for (int i = 0; i < 99; i++) check.due("tick 100", x.tick(100), 0);
        check.due("now", x.status(3), 9900);
        check.due("beyond 9,999", x.tick(100), -6);
        check.due("now as it was", x.status(3), 9900);
        check.due("till 9,999", x.tick(99), 0);
        check.due("now", x.status(3), 9999);
        check.due("beyond 9,999", x.tick(1), -6);
        check.due("counted", x.status(16), 6);
    }

    private static void clapAndFirst() {
        ClapTogether x = hall("");
        x.person(0, 0, 2, 1, 0);
        x.person(0, 1, 99, 1, 0);
        x.begin(0);
        check.due("n is 3, above LIKES at the next", x.tick(3), 1);
        check.due("for 3 ticks", x.personOf(0, 7), 3);
        check.due("done", x.tick(1), 0);
        check.due("done", mood(x, 0), 2);
        check.due("CLAP never begins", mood(x, 1), 0);
        check.due("DONE for good", x.tick(10), 0);
        check.due("one done", x.many(3), 1);

        x = hall("");
        x.person(1, 0, 99, 1, 2);
        check.due("not by AT yet", x.tick(2), 0);
        check.due("by AT", x.tick(1), 1);
        check.due("alone for 5", x.tick(5), 1);
        check.due("alone for more", x.tick(1), 0);

        x = hall("", 47);
        x.person(1, 0, 99, 1, 2);
        check.due("what is FAR 12 isn't heard", x.tick(8), 2);
        check.due("so it stops", x.tick(1), 1);

        x = hall("", 39);
        x.person(1, 0, 7, 1, 0);
        check.due("what is FAR 11 is heard", x.tick(9), 2);
        check.due("as CLAP it stops", x.tick(1), 1);
    }

    private static void caught() {
        ClapTogether x = hall("", 1);
        x.person(2, 0, 59, 1, 0);
        check.due("6 and 5 aren't 12", x.tick(1), 1);
        x.alter(1, 0, 60);
        check.due("6 and 6 are", x.tick(1), 2);

        x = hall("catch 0", 47);
        x.person(2, 0, 99, 1, 0);
        check.due("HEARD must be above 0", x.tick(5), 1);
        check.due("so it is quiet", mood(x, 1), 0);

        x = hall("", 3);
        x.person(2, 0, 99, 1, 0);
        x.begin(1);
        check.due("HEARD 3 isn't below stop", x.tick(5), 2);
        x.move(0, 4);
        check.due("HEARD 2 is", x.tick(1), 1);
        check.due("done", mood(x, 1), 2);

        x = hall("stop 0", 3);
        x.person(2, 0, 1, 1, 0);
        x.begin(1);
        check.due("as CLAP", x.tick(2), 2);
        check.due("as CLAP it stops", x.tick(1), 1);

        x = hall("", 1);
        x.person(4, 0, 59, 1, 0);
        check.due("BEATING as CAUGHT", x.tick(1), 1);
        x.alter(1, 0, 60);
        check.due("BEATING as CAUGHT", x.tick(1), 2);
        x.move(0, 4);
        check.due("BEATING as CAUGHT stops", x.tick(1), 1);
    }

    private static void besideHim() {
        ClapTogether x = hall("catch 99", 1);
        x.person(3, 0, 0, 1, 0);
        check.due("one isn't near", x.tick(1), 1);
        x.begin(x.person(0, 8, 79, 1, 0));
        check.due("two are", x.tick(1), 3);
        check.due("not while they are", x.tick(9), 3);
        check.due("for more ticks than LIKES", x.personOf(1, 7), 9);
        x.move(2, 9);
        check.due("FAR 2 isn't beside", x.tick(1), 2);

        x = hall("catch 99;near 0", 2);
        x.person(3, 0, 0, 1, 0);
        check.due("BESIDE HIM must be above 0", x.tick(3), 1);
        x.begin(1);
        check.due("but none is near enough to go on", x.tick(20), 2);

        x = hall("near 9", 1);
        x.person(3, 0, 60, 1, 0);
        check.due("as CAUGHT", x.tick(1), 2);
        x.move(0, 7);
        check.due("as CAUGHT it stops", x.tick(1), 1);
    }

    private static void fading() {
        ClapTogether x = hall("tire 0", 1);
        x.begin(x.person(0, 8, 79, 1, 0));
        x.person(5, 0, 19, 1, 0);
        check.due("LIKES below half", x.tick(1), 2);
        x.alter(2, 0, 20);
        check.due("LIKES are half", x.tick(1), 3);
        check.due("nothing drawn while quiet", x.status(4), 1);
        check.due("never tired", x.tick(10), 3);
        x.move(0, 40);
        x.move(1, 47);
        check.due("HEARD is below stop", x.tick(1), 2);

        x = hall("tire 10", 1);
        x.person(5, 0, 90, 1, 0);
        x.begin(1);
        check.due("tired at once", x.tick(1), 1);

        // draws from SEED 1: 16838 % 10 = 8, and that is followed up by the formula
        x = hall("tire 5;stop 0");
        x.person(5, 0, 99, 1, 0);
        x.person(5, 1, 99, 1, 0);
        x.begin(0);
        x.begin(1);
        int seed = 1;
        int going = 3;
        for (int t = 0; t < 20 && going != 0; t++) {
            for (int i = 0; i < 2; i++) {
                if ((going >> i & 1) == 0) continue;
                seed = seed * 1103515245 + 12345;
                if ((seed >>> 16) % 10 < 5) going &= ~(1 << i);
            }
            check.due("by draws, tick " + t, x.tick(1), Integer.bitCount(going));
            check.due("seed, tick " + t, x.status(4), seed);
            for (int i = 0; i < 2; i++) check.due("mood", mood(x, i), (going >> i & 1) == 1 ? 1 : 2);
        }

        x = hall("tire 0");
        x.person(5, 0, 99, 1, 0);
        x.begin(0);
        check.due("left alone", x.tick(1), 0);
        check.due("drawn all the same", x.status(4), 1103527590);
    }

    private static void polite() {
        ClapTogether x = hall("", 39);
        x.person(6, 0, 99, 1, 99);
        check.due("HEARD 1 is enough", x.tick(1), 2);
        check.due("till half", x.tick(20), 2);
        check.due("half", x.personOf(1, 7), 20);
        check.due("at half it stops", x.tick(1), 1);

        x = hall("");
        x.person(6, 0, 0, 1, 3);
        check.due("as FIRST, not yet", x.tick(3), 0);
        check.due("as FIRST", x.tick(1), 1);
        check.due("alone, and more than it LIKES", x.tick(20), 1);
        check.due("at half it stops", x.tick(1), 0);

        x = hall("half 0");
        x.person(6, 0, 0, 1, 0);
        check.due("begins", x.tick(1), 1);
        check.due("half 0", x.tick(1), 0);
    }

    private static void allAtOnce() {
        ClapTogether x = hall("", 0);
        for (int seat = 1; seat < 3; seat++) x.person(2, seat, 60, 1, 0);
        check.due("one by one", x.tick(1), 2);
        check.due("one by one", mood(x, 2), 0);
        check.due("one by one", x.tick(1), 3);
        x = hall("stop 6");
        x.person(2, 0, 60, 1, 0);
        x.person(2, 1, 0, 1, 0);
        x.begin(0);
        x.begin(1);
        check.due("both go on", x.tick(1), 2);
        check.due("one stops", x.tick(1), 1);
        check.due("then the other", x.tick(1), 0);
    }

    private static void hitsAndSteps() {
        ClapTogether x = new ClapTogether();
        x.person(0, 0, 99, 1, 0);
        x.person(0, 1, 99, 2, 0);
        x.person(0, 2, 99, 3, 0);
        x.person(0, 3, 99, 3, 0);
        x.alter(3, 3, 2);
        for (int i = 0; i < 3; i++) x.begin(i);
        check.due("no last tick", x.hits(), 0);
        int[] hits = {7, 1, 3, 5, 3, 1, 7};
        int[] step = {100, 33, 66, 66, 66, 33, 100};
        for (int t = 0; t < hits.length; t++) {
            x.tick(1);
            check.due("hits " + t, x.hits(), hits[t]);
            check.due("many hit " + t, x.many(1), Integer.bitCount(hits[t]));
            check.due("step " + t, x.step(), step[t]);
        }
        x.begin(3);
        check.due("clapping now", x.many(0), 4);
        check.due("step of the last tick", x.step(), 100);
        x.tick(1);
        check.due("NOW 7 and phase 2: by pace 3", x.hits(), 9);
        x.tick(1);
        check.due("NOW 8: by pace 2", x.hits(), 3);
        x.tick(1);
        check.due("NOW 9: by pace 3", x.hits(), 5);
        x.tick(1);
        check.due("NOW 10 and phase 2: by pace 3", x.hits(), 11);
        check.due("no such many", x.many(4), -5);
        check.due("no such many", x.many(-1), -5);
        x = new ClapTogether();
        x.person(1, 0, 0, 1, 0);
        x.tick(1);
        check.due("one that begins hits", x.hits(), 1);
        x.tick(2);
        check.due("none clapping", x.hits(), 0);
        check.due("step of none", x.step(), 0);
    }

    private static void beating() {
        ClapTogether x = hall("", 1, 8, 9);
        x.person(4, 0, 79, 4, 0);
        x.begin(3);
        x.tick(1);
        check.due("it hits", x.hits(), 15);
        check.due("so its phase stays", x.personOf(3, 5), 0);
        int[] phases = {1, 2, 3};
        for (int t = 1; t <= 3; t++) {
            x.tick(1);
            // NOW 1, phase 0: lags; NOW 2, phase 1: lags; NOW 3, phase 2: lags
            check.due("3 of 4 hit, phase", x.personOf(3, 5), phases[t - 1]);
            check.due("step", x.step(), 75);
        }
        x.alter(3, 3, 3);
        x.alter(3, 1, 5);
        x.tick(1);
        check.due("NOW 4 and phase 3 by pace 5", x.personOf(3, 5), 4);
        x.tick(1);
        check.due("phase modulo pace", x.personOf(3, 5), 0);

        x = hall("", 1);
        x.person(4, 0, 79, 4, 0);
        x.begin(1);
        x.tick(3);
        check.due("half isn't more than half", x.personOf(1, 5), 0);

        x = hall("", 1, 8, 9);
        x.person(2, 0, 79, 4, 0);
        x.begin(3);
        x.tick(3);
        check.due("CAUGHT keeps its phase", x.personOf(3, 5), 0);
        x.person(4, 40, 0, 4, 0);
        x.tick(3);
        check.due("a quiet one keeps its phase", x.personOf(4, 5), 0);
    }

    private static void standing() {
        ClapTogether x = new ClapTogether();
        x.person(0, 3, 80, 1, 0);
        x.person(0, 11, 99, 1, 0);
        x.tick(1);
        check.due("quiet ones don't stand", x.many(2), 0);
        x.person(0, 4, 79, 1, 0);
        x.begin(0);
        x.begin(2);
        x.tick(1);
        check.due("LIKES are stand", x.personOf(0, 8), 1);
        check.due("LIKES are below it", x.personOf(2, 8), 0);
        x.tick(3);
        check.due("one before isn't enough", x.many(2), 1);
        x.alter(2, 0, 80);
        x.tick(1);
        check.due("stood not ahead of this tick", x.personOf(1, 8), 0);
        x.tick(1);
        check.due("two before are enough", x.personOf(1, 8), 1);
        check.due("three stand", x.many(2), 3);
        x.tick(100);
        check.due("and go on standing", x.many(2), 3);
        check.due("though done", x.many(0), 0);

        for (int see = 0; see <= 1; see++) {
            x = hall("see " + see + ";stand 79", 8);
            int[] seats = {0, 9, 16, 17, 18, 15, 23, 24};
            for (int i = 0; i < seats.length; i++) x.person(0, seats[i], 0, 1, 0);
            x.tick(2);
            // behind 8 are 16 and 17 alone: 15 and 18 are not one place off it
            check.due("see " + see, x.personOf(3, 8) * 10 + x.personOf(4, 8), 11);
            check.due("how many", x.many(2), 3);
            x.tick(1);
            check.due("then 24", x.personOf(8, 8), 1);
            check.due("how many", x.many(2), 4);
        }
        x = hall("see 3;stand 79", 1, 2, 3);
        x.person(0, 10, 0, 1, 0);
        x.person(0, 9, 0, 1, 0);
        x.tick(2);
        check.due("three before", x.personOf(3, 8), 1);
        check.due("two before", x.personOf(4, 8), 0);
    }

    private static void beginAndHush() {
        ClapTogether x = new ClapTogether();
        x.person(1, 0, 99, 2, 9);
        x.person(4, 1, 99, 9, 0);
        x.person(0, 2, 0, 1, 0);
        check.due("begin", x.begin(0), 1);
        check.due("for 0 ticks at once", x.personOf(0, 7), 0);
        check.due("clapping", x.many(0), 1);
        check.due("no hit by that", x.hits(), 0);
        check.due("begin again", x.begin(0), -6);
        check.due("no such", x.begin(3), -1);
        check.due("no such", x.begin(-1), -1);
        x.begin(2);
        x.alter(1, 3, 5);
        x.glove(1, true);
        x.seed(99);
        x.tick(5);
        check.due("done ones can't", x.begin(2), -6);
        check.due("stands", x.personOf(0, 8), 1);
        check.due("hush", x.hush(), 3);
        for (int i = 0; i < 3; i++) {
            check.due("quiet", mood(x, i), 0);
            check.due("no ticks", x.personOf(i, 7), 0);
            check.due("no phase", x.personOf(i, 5), 0);
            check.due("not standing", x.personOf(i, 8), 0);
        }
        check.due("glove stays", x.personOf(1, 9), 1);
        check.due("seed stays", x.status(4), 99);
        check.due("now", x.status(3), 0);
        check.due("no last tick: hits", x.hits(), 0);
        check.due("no last tick: step", x.step(), 0);
        check.due("hush again", x.hush(), 0);
        check.due("may begin again", x.begin(2), 1);
    }

    private static void heardAndBeside() {
        ClapTogether x = hall("", 0, 1, 10, 47);
        x.person(0, 9, 0, 1, 0);
        // from seat 9: FAR 2, 1, 1, 10; of itself nothing
        check.due("heard", x.heard(4), 4 + 6 + 6 + 1);
        check.due("beside", x.beside(4), 2);
        x.begin(4);
        check.due("not by itself", x.heard(4), 17);
        check.due("heard by 0", x.heard(0), 6 + 3 + 4);
        check.due("beside 0", x.beside(0), 1);
        check.due("beside 1", x.beside(1), 2);
        x.move(4, 7);
        check.due("0 and 7 are far", x.heard(4), 1 + 1 + 1 + 2);
        x.move(4, 8);
        check.due("7 and 8 aren't beside", x.beside(4), 1);
        check.due("heard none", x.heard(5), -1);
        check.due("beside none", x.beside(5), -1);
        check.due("heard none", x.heard(-1), -1);
        check.due("beside none", x.beside(-1), -1);
        check.due("counted", x.status(11), 4);
    }
}
