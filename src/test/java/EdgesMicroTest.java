/** The edges of promises 34 to 36 and 40: microphones and what they take. */
public final class EdgesMicroTest {
    private static final int MIN = Edges.MIN;
    private static final int MAX = Edges.MAX;
    // the shelves of a furnished hall
    private static final int INTS_5 = 2;
    private static final int PERSON_1 = 4;
    private static final int EMPTY = 5;

    public static void main(String[] args) throws Exception {
        Edges.run(EdgesMicroTest.class);
    }

    private static ClapTogether eight() {
        ClapTogether x = new ClapTogether();
        for (int i = 0; i < 8; i++) x.micro(i * 6);
        return x;
    }

    /** One that hits on a seat, with a glove or none, and a microphone on another. */
    private static ClapTogether hitting(int seat, int micro, boolean glove) {
        ClapTogether x = new ClapTogether();
        Edges.clapper(x, seat);
        x.glove(0, glove);
        x.micro(micro);
        x.tick(1);
        return x;
    }

    // ---- promise 34

    private static void p34SeatsAre0To47() {
        int[] none = {-1, 48, 49, MIN, MAX};
        for (int seat : none) Edges.refused(-1, y -> y.micro(seat));
        for (int seat = 0; seat <= 47; seat++) {
            int at = seat;
            Edges.answers(0, new ClapTogether(), y -> y.micro(at));
        }
    }

    private static void p34EightAtMost() {
        ClapTogether x = new ClapTogether();
        for (int i = 0; i < 8; i++) {
            int number = i;
            Edges.answers(number, x, y -> y.micro(number * 6));
            Edges.due("so many", x.status(2), i + 1);
        }
        Edges.refused(-7, EdgesMicroTest::eight, y -> y.micro(0));
        Edges.refused(-7, EdgesMicroTest::eight, y -> y.micro(47));
    }

    private static void p34AtASeatThatIsTakenOrHasOne() {
        ClapTogether x = Edges.furnished();
        Edges.answers(2, x, y -> y.micro(0));
        Edges.answers(3, x, y -> y.micro(3));
        Edges.answers(4, x, y -> y.micro(3));
    }

    private static void p34RefusalsInTheirOrder() {
        Edges.refused(-1, EdgesMicroTest::eight, y -> y.micro(48));
        Edges.refused(-1, EdgesMicroTest::eight, y -> y.micro(-1));
    }

    // ---- promises 35, 36

    private static void p35MicrophonesThatAre() {
        int[] none = {-1, 2, 8, MIN, MAX};
        for (int micro : none) Edges.refused(-1, y -> y.sum(micro));
        Edges.refused(-1, ClapTogether::new, y -> y.sum(0));
        Edges.refused(-1, EdgesMicroTest::eight, y -> y.sum(8));
        Edges.unchanged(0, EdgesMicroTest::eight, y -> y.sum(7));
        Edges.unchanged(0, EdgesMicroTest::eight, y -> y.sum(0));
    }

    private static void p36MicrophonesThatAre() {
        int[] none = {-1, 2, 8, MIN, MAX};
        for (int micro : none) Edges.refused(-1, y -> y.gloved(micro));
        Edges.refused(-1, ClapTogether::new, y -> y.gloved(0));
        Edges.refused(-1, EdgesMicroTest::eight, y -> y.gloved(8));
        Edges.unchanged(0, EdgesMicroTest::eight, y -> y.gloved(7));
    }

    private static void p35TwelveBy1AndFarCut() {
        int[] taken = {12, 6, 4, 3, 2, 2, 1, 1, 1, 1, 1, 1, 0};
        int[] seats = {0, 47, 27};
        for (int seat : seats) {
            for (int at = 0; at <= 47; at++) {
                int far = Math.abs(seat / 8 - at / 8) + Math.abs(seat % 8 - at % 8);
                Edges.due("FAR " + far, hitting(seat, at, false).sum(0), taken[far]);
                Edges.due("without a glove", hitting(seat, at, false).gloved(0), 0);
                Edges.due("with one", hitting(seat, at, true).gloved(0), taken[far]);
                Edges.due("all, with one", hitting(seat, at, true).sum(0), taken[far]);
            }
        }
    }

    private static void p35EachCutThenTogether() {
        ClapTogether x = new ClapTogether();
        int[] seats = {4, 11, 18, 25, 32};
        for (int at : seats) Edges.clapper(x, at);
        x.micro(0);
        x.tick(1);
        Edges.answers(10, x, y -> y.sum(0));
    }

    private static void p35OverAllThirty() {
        ClapTogether x = new ClapTogether();
        int sum = 0;
        int gloved = 0;
        int[] taken = {12, 6, 4, 3, 2, 2, 1, 1, 1, 1, 1, 1, 0};
        for (int i = 0; i < 30; i++) {
            Edges.clapper(x, 18 + i);
            int far = (18 + i) / 8 + 7 - (18 + i) % 8;
            sum += taken[far];
            if (i % 3 == 0) {
                x.glove(i, true);
                gloved += taken[far];
            }
        }
        x.micro(7);
        x.tick(1);
        Edges.due("sum", x.sum(0), sum);
        Edges.due("gloved", x.gloved(0), gloved);
    }

    private static void p35OfTheLastTick() {
        ClapTogether x = new ClapTogether();
        Edges.clapper(x, 0);
        x.alter(0, 1, 2);
        x.glove(0, true);
        x.micro(0);
        Edges.answers(0, x, y -> y.sum(0));
        Edges.answers(0, x, y -> y.gloved(0));
        int[] want = {12, 0, 12, 0};
        for (int taken : want) {
            x.tick(1);
            Edges.answers(taken, x, y -> y.sum(0));
            Edges.answers(taken, x, y -> y.gloved(0));
        }
        x.tick(1);
        x.hush();
        Edges.answers(0, x, y -> y.sum(0));
        Edges.answers(0, x, y -> y.gloved(0));
    }

    private static void p36OfThoseWithAGloveThatHit() {
        ClapTogether x = new ClapTogether();
        Edges.clapper(x, 0);
        Edges.clapper(x, 1);
        x.person(0, 8, 99, 1, 0);
        x.alter(1, 3, 0);
        x.alter(1, 1, 2);
        x.glove(1, true);
        x.glove(2, true);
        x.micro(9);
        x.tick(1);
        Edges.answers(4 + 6, x, y -> y.sum(0));
        Edges.answers(6, x, y -> y.gloved(0));
        x.tick(1);
        Edges.answers(4, x, y -> y.sum(0));
        Edges.answers(0, x, y -> y.gloved(0));
    }

    // ---- promise 40

    private static void p40ShelvesAre0To7() {
        int[] none = {-1, 8, MIN, MAX};
        for (int s : none) Edges.refused(-11, y -> y.judge(s));
    }

    private static void p40AShelfWithAPersonOrNothing() {
        Edges.refused(-12, y -> y.judge(PERSON_1));
        Edges.refused(-13, y -> y.judge(EMPTY));
    }

    private static void p40NoneIsNoRefusal() {
        ClapTogether x = new ClapTogether();
        x.row(0, 0, 0);
        Edges.answers(-1, x, y -> y.judge(0));
        Check.ints(x, 0, 5, 6);
        Edges.answers(-1, x, y -> y.judge(0));
    }

    private static void p40MissingOnesAre0() {
        for (int size = 0; size <= 8; size++) {
            ClapTogether x = eight();
            x.row(0, 0, size);
            Edges.answers(-1, x, y -> y.judge(0));
            Edges.clapper(x, 47);
            x.tick(1);
            // the one on seat 0 takes nothing of FAR 12
            Edges.due("sum", x.sum(0), 0);
            Edges.answers(1, x, y -> y.judge(0));
        }
    }

    private static ClapTogether eightHear() {
        ClapTogether x = eight();
        Edges.clapper(x, 20);
        x.tick(1);
        return x;
    }

    private static int[] sumsOfEight() {
        ClapTogether x = eightHear();
        int[] sums = new int[8];
        for (int i = 0; i < 8; i++) sums[i] = x.sum(i);
        return sums;
    }

    private static void p40TheFirstThatIsnt() {
        int[] sums = sumsOfEight();
        for (int wrong = 0; wrong <= 8; wrong++) {
            int want = wrong < 8 ? wrong : -1;
            for (int by = -1; by <= 1; by += 2) {
                ClapTogether x = eightHear();
                Check.ints(x, 0, sums);
                if (wrong < 8) x.set(0, wrong, sums[wrong] + by);
                if (wrong < 7) x.set(0, 7, -5);
                Edges.answers(want, x, y -> y.judge(0));
            }
        }
    }

    private static void p40FewerAndMoreElementsThanMicrophones() {
        int[] sums = sumsOfEight();
        ClapTogether x = eightHear();
        Check.ints(x, 0, java.util.Arrays.copyOf(sums, 7));
        Edges.answers(7, x, y -> y.judge(0));
        Check.ints(x, 0, java.util.Arrays.copyOf(sums, 9));
        x.set(0, 8, 77);
        Edges.answers(-1, x, y -> y.judge(0));
    }

    private static void p40AsInts() {
        ClapTogether x = hitting(0, 0, false);
        x.row(0, 3, 1);
        x.set(0, 0, 0x70000000CL);
        Edges.answers(-1, x, y -> y.judge(0));
        x.set(0, 0, 0x8000000CL);
        Edges.answers(0, x, y -> y.judge(0));
        for (int sort = 0; sort <= 2; sort++) {
            x.row(0, sort, 1);
            x.set(0, 0, 12);
            Edges.answers(-1, x, y -> y.judge(0));
        }
    }

    private static void p40NothingIsChanged() {
        Edges.unchanged(Edges.furnished().judge(INTS_5), Edges::furnished, y -> y.judge(INTS_5));
    }
}
