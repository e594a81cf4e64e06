import java.util.Random;

/** No call throws, whatever it is given; a run without its refused calls leads to the same hall. */
public final class SturdyTest {
    private static final int[] ODD = {
        -1, 0, 1, 2, 3, 5, 6, 7, 8, 9, 10, 20, 29, 30, 31, 47, 48, 60, 99, 100, 101, 200, 201, -2, -5,
        Integer.MAX_VALUE, Integer.MIN_VALUE, Integer.MAX_VALUE - 1, 1 << 16,
    };
    private static final int ALL_CALLS = 43;
    private static final int LAWS = 13;
    // with a look at the seven counts behind each, below the 512 calls of one object
    private static final int RUN = 50;
    private static Random random;

    public static void main(String[] args) {
        for (int run = 0; run < 600; run++) withoutRefused(run);
        for (int run = 0; run < 200; run++) {
            Edges.begin("run " + run);
            Edges.due("the same again", answersOf(run), answersOf(run));
        }
        Edges.end();
    }

    private static int any() {
        return random.nextInt(3) > 0 ? random.nextInt(12) - 1 : ODD[random.nextInt(ODD.length)];
    }

    private static void furnish(ClapTogether x) {
        for (int i = 0; i < 30; i++) {
            x.person(random.nextInt(7), random.nextInt(48), random.nextInt(100), 1 + random.nextInt(9), random.nextInt(20));
        }
        Check.laws(x, "catch 5;near 1");
        Check.laws(x, "stop 1;see 1");
        x.micro(20);
        x.show(5, 0);
        Check.ints(x, 6, 1, 20, 3, 4, 5);
    }

    private static ClapTogether hallOf(int run) {
        ClapTogether x = new ClapTogether();
        random = new Random(run);
        if (run % 3 != 0) furnish(x);
        return x;
    }

    private static long answersOf(int run) {
        ClapTogether x = hallOf(run);
        long all = 0;
        for (int call = 0; call < 400; call++) all = all * 31 + callAny(x, random.nextInt(ALL_CALLS));
        return all;
    }

    /** Which calls of a run are refused, each by a refusal of its own that is counted once. */
    private static boolean[] refusedOf(int run) {
        ClapTogether x = hallOf(run);
        boolean[] refused = new boolean[RUN];
        int[] counts = new int[8];
        for (int i = 1; i <= 7; i++) counts[i] = x.status(10 + i);
        for (int call = 0; call < RUN; call++) {
            int which = random.nextInt(ALL_CALLS);
            long answer = callAny(x, which);
            for (int i = 1; i <= 7; i++) {
                int more = x.status(10 + i) - counts[i];
                counts[i] += more;
                if (more == 0) continue;
                Edges.due("call " + call + ", once", more, 1);
                Edges.due("call " + call + ", one refusal", refused[call] ? 1 : 0, 0);
                Edges.due("call " + call + " answers it", -answer % 10, i);
                refused[call] = true;
            }
        }
        return refused;
    }

    private static void withoutRefused(int run) {
        Edges.begin("run " + run);
        boolean[] refused = refusedOf(run);
        ClapTogether with = hallOf(run);
        long[] answers = new long[RUN];
        for (int call = 0; call < RUN; call++) answers[call] = callAny(with, random.nextInt(ALL_CALLS));
        ClapTogether without = hallOf(run);
        ClapTogether aside = new ClapTogether();
        for (int call = 0; call < RUN; call++) {
            int which = random.nextInt(ALL_CALLS);
            // refused laws() are made all the same: they may change the FAULT
            boolean isMade = !refused[call] || which == LAWS;
            long answer = callAny(isMade ? without : aside, which);
            if (isMade) Edges.due("call " + call, answer, answers[call]);
        }
        Edges.alike("behind the run", with, without);
    }

    private static long callAny(ClapTogether x, int which) {
        int a = any();
        int b = any();
        int c = any();
        switch (which) {
            case 0: return x.row(a, b, c);
            case 1: return x.set(a, b, random.nextLong());
            case 2: return x.copy(a, b, c, any(), any());
            case 3: return x.element(a, b);
            case 4: return x.show(a, b);
            case 5: return x.holds(a);
            case 6: return x.says(a, b);
            case 7: return x.person(a, b, c, any(), any());
            case 8: return x.people(a, b, c);
            case 9: return x.personOf(a, b);
            case 10: return x.move(a, b);
            case 11: return x.alter(a, b, c);
            case 12: return x.glove(a, random.nextBoolean());
            case 13: return x.laws(a);
            case 14: return x.fault();
            case 15: return x.law(a, b);
            case 16: return x.force(a);
            case 17: return x.seed(a);
            case 18: return x.tick(a);
            case 19: return x.begin(a);
            case 20: return x.hush();
            default: return callLater(x, which, a, b, c);
        }
    }

    private static long callLater(ClapTogether x, int which, int a, int b, int c) {
        switch (which) {
            case 21: return x.heard(a);
            case 22: return x.beside(a);
            case 23: return x.many(a);
            case 24: return x.hits();
            case 25: return x.step();
            case 26: return x.length(a, b);
            case 27: return x.joined(a, b);
            case 28: return x.tally(a, b, c);
            case 29: return x.grows(a);
            case 30: return x.few(a);
            case 31: return x.front(a);
            case 32: return x.micro(a);
            case 33: return x.sum(a);
            case 34: return x.gloved(a);
            case 35: return x.fit(a, b);
            case 36: return x.part(a, b, c);
            case 37: return x.spread(a);
            case 38: return x.judge(a);
            case 39: return x.act(a, b, c);
            case 40: return x.trace(a);
            case 41: return x.image();
            default: return x.restore();
        }
    }
}
