import java.lang.reflect.Method;
import java.util.ArrayList;
import java.util.Arrays;
import java.util.Comparator;
import java.util.List;

/** Runs a test class edge by edge: an edge is a method whose name begins with p and the number of its promise. */
final class Edges {
    interface Making {
        ClapTogether make();
    }

    interface Call {
        long on(ClapTogether x);
    }

    static final int MIN = Integer.MIN_VALUE;
    static final int MAX = Integer.MAX_VALUE;
    private static final Check check = new Check();
    private static String edge = "";

    static void run(Class<?> tests) throws Exception {
        Method[] methods = tests.getDeclaredMethods();
        Arrays.sort(methods, Comparator.comparing(Method::getName));
        int ran = 0;
        for (Method method : methods) {
            if (!method.getName().matches("p\\d\\d.*")) continue;
            edge = method.getName();
            method.setAccessible(true);
            method.invoke(null);
            ran++;
        }
        begin(tests.getName());
        due("has edges", ran > 0 ? 1 : 0, 1);
        end();
    }

    /** What is compared from here on, and its end. */
    static void begin(String what) {
        edge = what;
    }

    static void end() {
        check.end();
    }

    static void due(String call, long got, long want) {
        check.due(edge + ": " + call, got, want);
    }

    /** The call answers so, and no refusal is counted. */
    static void answers(long want, ClapTogether x, Call call) {
        int before = refusalsOf(x);
        due("the call", call.on(x), want);
        due("refusals", refusalsOf(x), before);
    }

    /** The call is refused in a furnished hall, which goes on as if it had not been made. */
    static void refused(int want, Call call) {
        refused(want, Edges::furnished, call);
    }

    static void refused(int want, Making making, Call call) {
        ClapTogether touched = making.make();
        ClapTogether spared = making.make();
        due("the refused call", call.on(touched), want);
        int as = want < -10 ? -10 - want : -want;
        for (int i = 1; i <= 7; i++) {
            due("refusals -" + i, touched.status(10 + i) - spared.status(10 + i), i == as ? 1 : 0);
        }
        alike("behind a refused call that answers " + want, touched, spared);
    }

    /** The call is answered so, and the hall goes on as if it had not been made. */
    static void unchanged(long want, Making making, Call call) {
        ClapTogether touched = making.make();
        answers(want, touched, call);
        alike("behind a call that changes nothing", touched, making.make());
    }

    static void alike(String when, ClapTogether x, ClapTogether y) {
        List<String> one = goOn(x);
        List<String> other = goOn(y);
        for (int i = 0; i < Math.min(one.size(), other.size()); i++) {
            if (one.get(i).equals(other.get(i))) continue;
            due(when + ": " + one.get(i) + ", not " + other.get(i), 1, 0);
            return;
        }
        due(when + ": so many calls", one.size(), other.size());
    }

    static int refusalsOf(ClapTogether x) {
        int all = 0;
        for (int what = 11; what <= 17; what++) all += x.status(what);
        return all;
    }

    // ---- halls

    /** A bit of everything: all kinds, two laws, microphones, an image, each sort of row, a person on a shelf. */
    static ClapTogether furnished() {
        ClapTogether x = new ClapTogether();
        x.person(1, 0, 85, 1, 0);
        x.person(2, 1, 90, 2, 0);
        x.person(3, 8, 50, 3, 0);
        x.person(4, 9, 90, 4, 0);
        x.person(5, 10, 70, 1, 0);
        x.person(6, 16, 20, 4, 5);
        x.person(0, 47, 99, 1, 0);
        x.glove(1, true);
        Check.laws(x, "catch 9;tire 5");
        Check.laws(x, "see 1;stop 1");
        x.force(0);
        x.micro(3);
        x.micro(40);
        x.tick(2);
        x.image();
        x.alter(3, 3, 1);
        x.tick(1);
        Check.letters(x, 0, "see");
        x.laws(0);
        x.row(1, 1, 4);
        x.set(1, 0, -7);
        Check.ints(x, 2, 1, 2, 3, 4, 5);
        x.row(3, 3, 2);
        x.set(3, 1, 1L << 40);
        x.show(4, 1);
        x.row(6, 2, 0);
        x.row(7, 0, 100);
        x.set(7, 99, 1);
        x.act(3, 2, 5);
        return x;
    }

    /** 30 people, all that there may be. */
    static ClapTogether full() {
        ClapTogether x = new ClapTogether();
        for (int i = 0; i < 30; i++) x.person(i % 7, i, 3 * i, 1 + i % 9, i);
        return x;
    }

    static ClapTogether hall(String laws) {
        ClapTogether x = new ClapTogether();
        if (!laws.isEmpty()) x.force(Check.laws(x, laws));
        return x;
    }

    /** A CLAP one that claps for long and doesn't stand by the laws at first. */
    static int clapper(ClapTogether x, int seat) {
        return asked(x, 0, seat, 79);
    }

    static int asked(ClapTogether x, int kind, int seat, int likes) {
        int person = x.person(kind, seat, likes, 1, 99);
        x.begin(person);
        return person;
    }

    static int mood(ClapTogether x, int person) {
        return x.personOf(person, 6);
    }

    static int draw(int seed, int n) {
        return (int) ((nextSeed(seed) & 0xFFFFFFFFL) / 65536 % n);
    }

    static int nextSeed(int seed) {
        return (int) (seed * 1103515245L + 12345L);
    }

    // ---- how a hall goes on

    private static void tell(List<String> told, String call, long answer) {
        told.add(call + " " + answer);
    }

    /** What a hall answers to some 250 calls: what it holds, what is made of it, how it goes on, what it was. */
    private static List<String> goOn(ClapTogether x) {
        List<String> told = new ArrayList<>();
        tellHeld(told, x);
        tellPeople(told, x);
        tellMade(told, x);
        tellNext(told, x);
        tell(told, "restore", x.restore());
        for (int what = 0; what <= 5; what++) tell(told, "restored status " + what, x.status(what));
        tellPeople(told, x);
        return told;
    }

    private static void tellHeld(List<String> told, ClapTogether x) {
        for (int what = 0; what <= 5; what++) tell(told, "status " + what, x.status(what));
        tell(told, "fault", x.fault());
        for (int i = 0; i < 9; i++) tell(told, "trace " + i, x.trace(i));
        for (int s = 0; s < 8; s++) {
            int holds = x.holds(s);
            tell(told, "holds " + s, holds);
            int[] elements = {0, 1, 2, 4, 99};
            if (holds < 100) continue;
            for (int i : elements) tell(told, "element " + s + ", " + i, x.element(s, i));
        }
        for (int laws = 0; laws < x.status(1); laws++) {
            for (int i = 0; i < 7; i++) tell(told, "law " + laws + ", " + i, x.law(laws, i));
        }
        for (int micro = 0; micro < x.status(2); micro++) {
            tell(told, "sum " + micro, x.sum(micro));
            tell(told, "gloved " + micro, x.gloved(micro));
        }
    }

    private static void tellPeople(List<String> told, ClapTogether x) {
        int count = x.status(0);
        for (int person = 0; person < count; person++) {
            if (person > 4 && person < count - 2) continue;
            for (int what = 0; what < 10; what++) tell(told, "personOf " + person + ", " + what, x.personOf(person, what));
        }
        tell(told, "hits", x.hits());
        tell(told, "step", x.step());
        for (int what = 0; what < 4; what++) tell(told, "many " + what, x.many(what));
    }

    private static void tellMade(List<String> told, ClapTogether x) {
        tell(told, "heard", x.heard(0));
        tell(told, "beside", x.beside(0));
        tell(told, "length", x.length(-1, 90));
        tell(told, "joined", x.joined(-1, 90));
        tell(told, "tally", x.tally(-1, 90, 20));
        tell(told, "grows", x.grows(0));
        tell(told, "few", x.few(2));
        tell(told, "front", x.front(-1));
        tell(told, "spread", x.spread(3));
        tell(told, "part", x.part(-1, 0, 90));
        tell(told, "fit", x.fit(2, 1));
        tell(told, "judge", x.judge(2));
        for (int s = 3; s <= 4; s++) tell(told, "says " + s, x.says(s, 0));
    }

    private static void tellNext(List<String> told, ClapTogether x) {
        for (int n = 1; n <= 4; n++) tell(told, "tick " + n, x.tick(n));
        tell(told, "seed", x.status(4));
        tell(told, "hits", x.hits());
        tell(told, "begin", x.begin(6));
        tell(told, "person", x.person(5, 40, 90, 2, 0));
        tell(told, "micro", x.micro(20));
        tell(told, "laws", Check.laws(x, "see 1"));
        tell(told, "force", x.force(-1));
        tell(told, "tick", x.tick(30));
        tell(told, "act", x.act(0, 2, 9));
        tell(told, "many", x.many(2));
    }
}
