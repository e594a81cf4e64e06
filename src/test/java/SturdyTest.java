import java.util.Random;

/** No call throws, whatever it is given; a refused one changes nothing but how many were refused. */
public final class SturdyTest {
    private static final int[] ODD = {
        -1, 0, 1, 2, 3, 5, 6, 7, 8, 9, 10, 20, 29, 30, 31, 47, 48, 60, 99, 100, 101, 200, 201, -2, -5,
        Integer.MAX_VALUE, Integer.MIN_VALUE, Integer.MAX_VALUE - 1, 1 << 16,
    };
    private static final Check check = new Check();
    private static Random random;

    public static void main(String[] args) {
        for (int run = 0; run < 150; run++) {
            random = new Random(run);
            ClapTogether x = new ClapTogether();
            if (run % 3 != 0) furnish(x);
            for (int call = 0; call < 400; call++) {
                callOne(x, random.nextInt(43), run);
            }
        }
        for (int run = 0; run < 20; run++) check.due("the same again", answersOf(run), answersOf(run));
        check.end();
    }

    private static int any() {
        return random.nextInt(3) > 0 ? random.nextInt(12) - 1 : ODD[random.nextInt(ODD.length)];
    }

    private static void furnish(ClapTogether x) {
        for (int i = 0; i < 30; i++) {
            x.person(random.nextInt(7), random.nextInt(48), random.nextInt(100), 1 + random.nextInt(9), random.nextInt(20));
        }
        Check.laws(x, "catch 5;near 1");
        Check.laws(x, "stop 1;see 1");
        x.micro(20);
        x.show(5, 0);
        Check.ints(x, 6, 1, 20, 3, 4, 5);
    }

    private static long answersOf(int run) {
        random = new Random(run);
        ClapTogether x = new ClapTogether();
        furnish(x);
        long all = 0;
        for (int call = 0; call < 200; call++) all = all * 31 + callAny(x, random.nextInt(43));
        return all;
    }

    /** A sum over what can be seen of an object without a refusal. */
    private static long lookOf(ClapTogether x) {
        long look = 0;
        for (int what = 0; what < 6; what++) look = look * 31 + x.status(what);
        for (int person = 0; person < x.status(0); person++) {
            for (int what = 0; what < 10; what++) look = look * 31 + x.personOf(person, what);
        }
        for (int laws = 0; laws < x.status(1); laws++) {
            for (int i = 0; i < 7; i++) look = look * 31 + x.law(laws, i);
        }
        for (int micro = 0; micro < x.status(2); micro++) look = look * 31 + x.sum(micro) * 50 + x.gloved(micro);
        for (int s = 0; s < 8; s++) {
            look = look * 31 + x.holds(s);
            for (int i = 0; i < 12; i++) look = look * 31 + x.element(s, i);
        }
        return look * 31 * 31 + x.hits() * 31 + x.step();
    }

    private static void callOne(ClapTogether x, int which, int run) {
        int[] refused = new int[7];
        for (int i = 0; i < 7; i++) refused[i] = x.status(11 + i);
        long before = lookOf(x);
        int fault = x.fault();
        long answer = callAny(x, which);
        int grown = 0;
        int as = 0;
        for (int i = 0; i < 7; i++) {
            int more = x.status(11 + i) - refused[i];
            grown += more;
            if (more == 1) as = i + 1;
        }
        check.due("refusals counted by one call, run " + run, grown <= 1 ? 1 : 0, 1);
        if (grown == 0) return;
        check.due("the refusal is answered, run " + run + ", call " + which, -answer % 10, as);
        check.due("nothing changes, run " + run + ", call " + which, lookOf(x), before);
        if (which != 13) check.due("nor the fault", x.fault(), fault);
    }

    private static long callAny(ClapTogether x, int which) {
        int a = any();
        int b = any();
        int c = any();
        switch (which) {
            case 0: return x.row(a, b, c);
            case 1: return x.set(a, b, random.nextLong());
            case 2: return x.copy(a, b, c, any(), any());
            case 3: return x.element(a, b);
            case 4: return x.show(a, b);
            case 5: return x.holds(a);
            case 6: return x.says(a, b);
            case 7: return x.person(a, b, c, any(), any());
            case 8: return x.people(a, b, c);
            case 9: return x.personOf(a, b);
            case 10: return x.move(a, b);
            case 11: return x.alter(a, b, c);
            case 12: return x.glove(a, random.nextBoolean());
            case 13: return x.laws(a);
            case 14: return x.fault();
            case 15: return x.law(a, b);
            case 16: return x.force(a);
            case 17: return x.seed(a);
            case 18: return x.tick(a);
            case 19: return x.begin(a);
            case 20: return x.hush();
            default: return callLater(x, which, a, b, c);
        }
    }

    private static long callLater(ClapTogether x, int which, int a, int b, int c) {
        switch (which) {
            case 21: return x.heard(a);
            case 22: return x.beside(a);
            case 23: return x.many(a);
            case 24: return x.hits();
            case 25: return x.step();
            case 26: return x.length(a, b);
            case 27: return x.joined(a, b);
            case 28: return x.tally(a, b, c);
            case 29: return x.grows(a);
            case 30: return x.few(a);
            case 31: return x.front(a);
            case 32: return x.micro(a);
            case 33: return x.sum(a);
            case 34: return x.gloved(a);
            case 35: return x.fit(a, b);
            case 36: return x.part(a, b, c);
            case 37: return x.spread(a);
            case 38: return x.judge(a);
            case 39: return x.act(a, b, c);
            case 40: return x.trace(a);
            case 41: return x.image();
            default: return x.restore();
        }
    }
}
