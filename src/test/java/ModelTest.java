import java.util.Random;

/** Halls of all kinds and laws by draws, compared with the model: promises 8, 20, 22 to 40, 43 and 44. */
public final class ModelTest {
    private static final String[] NAMES = {"catch", "near", "stop", "tire", "half", "see", "stand"};
    private static final int[] AT_FIRST = {12, 2, 3, 2, 20, 2, 80};
    private static final Check check = new Check();
    private static Random random;
    private static ClapTogether x;
    private static Model m;
    private static int[][] laws;
    private static int force;
    private static String at;

    public static void main(String[] args) {
        for (int run = 0; run < 400; run++) {
            at = "run " + run + ": ";
            random = new Random(1000 + run);
            x = new ClapTogether();
            m = new Model();
            make();
            for (int round = random.nextInt(3); round >= 0; round--) {
                int was = force;
                force = random.nextInt(5) - 1;
                check.due(at + "force", x.force(force), was);
                change();
            }
            // all in all below the 512 calls of one object
            compareNow();
            compareEvenings();
        }
        check.end();
    }

    private static int[] law(int which) {
        return which < 0 ? AT_FIRST : laws[which];
    }

    private static void make() {
        int count = 1 + random.nextInt(30);
        while (m.people.size() < count) {
            int seat = random.nextInt(count < 20 ? 24 : 48);
            Model.One p = new Model.One();
            p.kind = random.nextInt(7);
            p.seat = seat;
            p.likes = random.nextInt(100);
            p.pace = 1 + random.nextInt(9);
            p.at = random.nextInt(random.nextBoolean() ? 10 : 100);
            if (x.person(p.kind, p.seat, p.likes, p.pace, p.at) >= 0) m.people.add(p);
        }
        laws = new int[4][];
        force = -1;
        for (int i = 0; i < 4; i++) {
            laws[i] = AT_FIRST.clone();
            StringBuilder text = new StringBuilder();
            for (int k = 0; k < 5; k++) {
                int which = random.nextInt(7);
                int most = which == 6 || which == 4 ? 100 : which == 3 || which == 0 ? 16 : 5;
                laws[i][which] = random.nextInt(most);
                text.append(k == 0 ? "" : ";").append(NAMES[which]).append(' ').append(laws[i][which]);
            }
            check.due("laws", Check.laws(x, text.toString()), i);
        }
        for (int i = 0; i < 3; i++) x.micro(i * 11);
        m.seed = random.nextInt();
        x.seed(m.seed);
    }

    private static void change() {
        int n = m.people.size();
        int ticks = 1 + random.nextInt(8);
        if (random.nextInt(4) == 0) {
            check.due(at + "hush", x.hush(), n - Integer.bitCount(m.bits(0)));
            m.now = 0;
            m.hits = 0;
            m.clapped = 0;
            for (Model.One p : m.people) {
                p.mood = 0;
                p.ticks = 0;
                p.phase = 0;
                p.stands = false;
            }
        }
        for (int k = 0; k < 4; k++) {
            int who = random.nextInt(n);
            Model.One p = m.people.get(who);
            check.due(at + "begin", x.begin(who), p.mood == 0 ? 1 : -6);
            if (p.mood == 0) p.mood = 1;
            int phase = random.nextInt(p.pace);
            check.due(at + "alter", x.alter(who, 3, phase), p.phase);
            p.phase = phase;
            check.due(at + "glove", x.glove(who, true), p.glove ? 0 : 1);
            p.glove = true;
        }
        for (int t = 0; t < ticks; t++) m.tick(law(force));
        check.due(at + "tick", x.tick(ticks), Integer.bitCount(m.bits(1)));
    }

    private static void compareNow() {
        check.due(at + "now", x.status(3), m.now);
        check.due(at + "seed", x.status(4), m.seed);
        check.due(at + "hits", x.hits(), m.hits);
        check.due(at + "step", x.step(), m.clapped == 0 ? 0 : 100 * Integer.bitCount(m.hits) / m.clapped);
        int standing = 0;
        for (int i = 0; i < m.people.size(); i++) {
            Model.One p = m.people.get(i);
            if (p.stands) standing++;
            int[] told = {p.kind, p.seat, p.likes, p.pace, p.at, p.phase, p.mood, p.ticks, p.stands ? 1 : 0, p.glove ? 1 : 0};
            // what came with it is told of some alone
            for (int what = i % 5 == 0 ? 0 : 5; what < 10; what++) {
                check.due(at + "person " + i + ", " + what, x.personOf(i, what), told[what]);
            }
            if (i % 5 != 0) continue;
            check.due(at + "heard " + i, x.heard(i), m.heard(i));
            check.due(at + "beside " + i, x.beside(i), m.beside(i));
        }
        check.due(at + "clapping", x.many(0), Integer.bitCount(m.bits(1)));
        check.due(at + "standing", x.many(2), standing);
        check.due(at + "done", x.many(3), Integer.bitCount(m.bits(2)));
        for (int micro = 0; micro < 3; micro++) {
            check.due(at + "sum", x.sum(micro), m.taken(micro * 11, false));
            check.due(at + "gloved", x.gloved(micro), m.taken(micro * 11, true));
        }
    }

    private static void compareEvenings() {
        int a = random.nextInt(5) - 1;
        int b = random.nextInt(5) - 1;
        int n = random.nextInt(random.nextBoolean() ? 12 : 201);
        int[] told = m.evening(law(a), n);
        int[] other = m.evening(law(b), n);
        int part = 0;
        while (part < n && told[part] == other[part]) part++;
        check.due(at + "part", x.part(a, b, n), part < n ? part : -1);
        check.due(at + "joined", x.joined(a, n), told[n]);
        check.due(at + "length", x.length(a, n), m.length(law(a), n));
        for (int i = 0; i < n; i += 1 + n / 6) check.due(at + "tally", x.tally(a, n, i), told[i]);
        check.due(at + "front", x.front(a), m.front(law(a)));
        int size = m.people.size();
        int who = random.nextInt(size);
        check.due(at + "grows", x.grows(who), m.grows(law(force), who));
        int spread = 1 + random.nextInt(5);
        check.due(at + "spread", x.spread(spread), m.spread(law(force), spread));
        if (size <= 12) {
            int want = 1 + random.nextInt(size);
            check.due(at + "few", x.few(want), m.few(law(force), want));
        }
        int ticks = Math.min(n, 9);
        int[] row = java.util.Arrays.copyOf(told, ticks);
        Check.ints(x, 0, row);
        int fitting = 0;
        for (int i = 0; i < 4; i++) {
            int[] by = m.evening(law(i), ticks);
            if (java.util.Arrays.equals(row, java.util.Arrays.copyOf(by, ticks))) fitting |= 1 << i;
        }
        check.due(at + "fit", x.fit(0, ticks), fitting);
    }
}
