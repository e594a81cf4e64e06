import java.util.ArrayList;
import java.util.List;

/** The hall once more, as slowly and as near to the document's words as can be, to compare with. */
final class Model {
    static final class One {
        int kind, seat, likes, pace, at, phase, mood, ticks;
        boolean stands, glove;

        One copyOf() {
            One c = new One();
            c.kind = kind; c.seat = seat; c.likes = likes; c.pace = pace; c.at = at; c.phase = phase;
            c.mood = mood; c.ticks = ticks; c.stands = stands; c.glove = glove;
            return c;
        }
    }

    List<One> people = new ArrayList<>();
    int now = 0;
    int seed = 1;
    int hits = 0;
    int clapped = 0;
    boolean nobodyByAt = false;

    Model copyOf() {
        Model c = new Model();
        for (One one : people) c.people.add(one.copyOf());
        c.now = now; c.seed = seed; c.hits = hits; c.clapped = clapped;
        return c;
    }

    int draw(int n) {
        seed = (int) (seed * 1103515245L + 12345L);
        return (int) ((seed & 0xFFFFFFFFL) / 65536 % n);
    }

    static int far(int a, int b) {
        return Math.abs(a / 8 - b / 8) + Math.abs(a % 8 - b % 8);
    }

    int heard(int i) {
        int sum = 0;
        for (int j = 0; j < people.size(); j++) {
            if (j != i && people.get(j).mood == 1) sum += 12 / (1 + far(people.get(i).seat, people.get(j).seat));
        }
        return sum;
    }

    int beside(int i) {
        int sum = 0;
        for (One other : people) {
            if (other.mood == 1 && far(people.get(i).seat, other.seat) == 1) sum++;
        }
        return sum;
    }

    boolean begins(int i, int[] law) {
        One p = people.get(i);
        boolean byAt = now >= p.at && !nobodyByAt;
        boolean caught = heard(i) + p.likes / 10 >= law[0] && heard(i) > 0;
        if (p.kind == 1) return byAt;
        if (p.kind == 2 || p.kind == 4) return caught;
        if (p.kind == 3) return caught || beside(i) >= law[1] && beside(i) > 0;
        if (p.kind == 5) return caught && p.likes >= law[4];
        if (p.kind == 6) return byAt || heard(i) > 0;
        return false;
    }

    boolean stops(int i, int[] law, boolean tired) {
        One p = people.get(i);
        boolean asClap = p.ticks > p.likes;
        boolean asCaught = asClap || heard(i) < law[2];
        if (p.kind == 0) return asClap;
        if (p.kind == 1) return asClap || heard(i) == 0 && p.ticks >= 5;
        if (p.kind == 3) return asCaught && !(beside(i) >= law[1]);
        if (p.kind == 5) return asCaught || tired;
        if (p.kind == 6) return p.ticks >= law[4];
        return asCaught;
    }

    void tick(int[] law) {
        int n = people.size();
        boolean[] tired = new boolean[n];
        for (int i = 0; i < n; i++) {
            if (people.get(i).kind == 5 && people.get(i).mood == 1) tired[i] = draw(10) < law[3];
        }
        List<One> next = new ArrayList<>();
        for (int i = 0; i < n; i++) {
            One p = people.get(i).copyOf();
            if (p.mood == 0 && begins(i, law)) {
                p.mood = 1;
                p.ticks = 0;
            } else if (p.mood == 1 && stops(i, law, tired[i])) {
                p.mood = 2;
                p.ticks = 0;
            } else if (p.mood == 1) {
                p.ticks++;
            }
            next.add(p);
        }
        hits = 0;
        clapped = 0;
        for (int i = 0; i < n; i++) {
            One p = next.get(i);
            if (p.mood != 1) continue;
            clapped++;
            if ((now + p.phase) % p.pace == 0) hits |= 1 << i;
        }
        for (int i = 0; i < n; i++) {
            One p = next.get(i);
            boolean lags = p.kind == 4 && p.mood == 1 && (hits & 1 << i) == 0;
            if (lags && Integer.bitCount(hits) > clapped / 2.0) p.phase = (p.phase + 1) % p.pace;
        }
        for (One p : next) {
            int before = 0;
            for (One q : people) {
                boolean isBefore = q.seat / 8 == p.seat / 8 - 1 && Math.abs(q.seat % 8 - p.seat % 8) <= 1;
                if (isBefore && q.stands) before++;
            }
            if (p.mood == 1 && p.likes >= law[6] || before >= (law[5] == 0 ? 1 : law[5])) p.stands = true;
        }
        people = next;
        now++;
    }

    int bits(int mood) {
        int bits = 0;
        for (int i = 0; i < people.size(); i++) if (people.get(i).mood == mood) bits |= 1 << i;
        return bits;
    }

    /** Of an evening: its tallies, and behind them how many joined. */
    int[] evening(int[] law, int n) {
        Model m = copyOf();
        m.nobodyByAt = nobodyByAt;
        int[] told = new int[n + 1];
        int joined = m.bits(1);
        for (int t = 0; t < n; t++) {
            m.tick(law);
            told[t] = Integer.bitCount(m.bits(1));
            joined |= m.bits(1);
        }
        told[n] = Integer.bitCount(joined);
        return told;
    }

    int length(int[] law, int n) {
        int[] told = evening(law, n);
        int length = 0;
        boolean over = false;
        for (int t = 0; t < n; t++) {
            if (told[t] > 0 && !over) length++;
            if (told[t] == 0 && length > 0) over = true;
        }
        return length;
    }

    int grows(int[] law, int person) {
        Model m = copyOf();
        m.now = 0;
        m.nobodyByAt = true;
        for (One p : m.people) {
            p.mood = 0;
            p.ticks = 0;
            p.stands = false;
            p.phase = 0;
        }
        m.people.get(person).mood = 1;
        return m.evening(law, 100)[100] - 1;
    }

    int few(int[] law, int m) {
        int best = -5;
        for (int b = -1; b < people.size(); b++) {
            for (int a = -1; a < Math.max(b, 0); a++) {
                int set = (a < 0 ? 0 : 1 << a) | (b < 0 ? 0 : 1 << b);
                if ((set & bits(0)) != set) continue;
                boolean isBetter = best == -5 || Integer.bitCount(set) < Integer.bitCount(best)
                    || Integer.bitCount(set) == Integer.bitCount(best) && set < best;
                if (!isBetter) continue;
                Model asked = copyOf();
                for (int i = 0; i < people.size(); i++) if ((set >> i & 1) == 1) asked.people.get(i).mood = 1;
                if (asked.evening(law, 60)[60] >= m) best = set;
            }
        }
        return best;
    }

    int front(int[] law) {
        Model m = copyOf();
        for (int t = 0; t < 60; t++) m.tick(law);
        int least = -1;
        for (One p : m.people) if (p.stands && (least < 0 || p.seat / 8 < least)) least = p.seat / 8;
        return least;
    }

    int spread(int[] law, int n) {
        int least = Integer.MAX_VALUE;
        int greatest = 0;
        for (int i = 0; i < n; i++) {
            Model m = copyOf();
            m.seed = seed + i;
            least = Math.min(least, m.length(law, 100));
            greatest = Math.max(greatest, m.length(law, 100));
        }
        return greatest - least;
    }

    int taken(int seat, boolean gloves) {
        int sum = 0;
        for (int i = 0; i < people.size(); i++) {
            One p = people.get(i);
            if ((hits >> i & 1) == 1 && (p.glove || !gloves)) sum += 12 / (1 + far(seat, p.seat));
        }
        return sum;
    }
}
