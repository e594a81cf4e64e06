/** The edges of promises 41 and 42: acts that wrap or aren't there, and the trace. */
public final class EdgesActsTest {
    private static final int MIN = Edges.MIN;
    private static final int MAX = Edges.MAX;
    // of each kind the bodies that run by hears, begins and steps, in the order in which they begin
    private static final int[][][] BODIES = {
        {{10}, {11, 10}, {12, 11, 10, 10}},
        {{10}, {20, 11, 10}, {12, 20, 11, 10, 10}},
        {{30, 10}, {11, 30, 10}, {12, 11, 30, 10, 30, 10}},
        {{40, 30, 10}, {11, 40, 30, 10}, {12, 11, 40, 30, 10, 40, 30, 10}},
        {{30, 10}, {51, 11, 30, 10}, {50, 12, 51, 11, 30, 10, 30, 10}},
        {{30, 10}, {11, 30, 10}, {60, 12, 11, 30, 10, 30, 10}},
        {{71, 10}, {70, 20, 11, 71, 10}, {12, 70, 20, 11, 71, 10, 71, 10}},
    };

    public static void main(String[] args) throws Exception {
        Edges.run(EdgesActsTest.class);
    }

    /** One of each kind, whose number is its kind, with such a pace. */
    private static ClapTogether kinds(int pace) {
        ClapTogether x = new ClapTogether();
        for (int kind = 0; kind <= 6; kind++) x.person(kind, kind, 1, pace, 1);
        return x;
    }

    private static int hears(int kind, int x, int pace) {
        switch (kind) {
            case 0: case 1: return x + kind;
            case 2: case 4: case 5: return (x + kind) * 3;
            case 3: return (x + 1 + kind) * 3;
            default: return x - pace + kind;
        }
    }

    private static int begins(int kind, int x, int pace) {
        int twice = hears(kind, x, pace) * 2;
        switch (kind) {
            case 1: return twice + pace;
            case 4: return -twice;
            case 6: return (twice + pace) * 2;
            default: return twice;
        }
    }

    private static int steps(int kind, int x, int pace) {
        int of = begins(kind, x, pace) ^ hears(kind, x - pace, pace);
        return kind == 4 ? of - kind : kind == 5 ? of ^ 5 : of;
    }

    // ---- promise 41

    private static void p41EachKindAndAct() {
        int[] xs = {0, 1, -1, 100, -100};
        for (int pace = 1; pace <= 9; pace++) {
            ClapTogether x = kinds(pace);
            for (int kind = 0; kind <= 6; kind++) compare(x, kind, pace, xs[pace % 5]);
        }
    }

    private static void compare(ClapTogether x, int kind, int pace, int with) {
        Edges.due("hears of kind " + kind + ", " + with, x.act(kind, 0, with), hears(kind, with, pace));
        Edges.due("begins of kind " + kind + ", " + with, x.act(kind, 1, with), begins(kind, with, pace));
        Edges.due("steps of kind " + kind + ", " + with, x.act(kind, 2, with), steps(kind, with, pace));
    }

    private static void p41Wraps() {
        int[] xs = {MAX, MIN, MAX - 9, MIN + 9, 1 << 30, -(1 << 30), MAX / 3, MAX / 6 + 1, 0x55555555};
        for (int with : xs) {
            ClapTogether x = kinds(9);
            for (int kind = 0; kind <= 6; kind++) compare(x, kind, 9, with);
        }
        Edges.due("x and 1 above the most", kinds(1).act(1, 0, MAX), MIN);
        Edges.due("x less k below the least", kinds(9).act(6, 0, MIN), MAX - 2);
        Edges.due("1 more than the most", kinds(1).act(3, 0, MAX), (MIN + 3) * 3);
        Edges.due("less of the least", kinds(1).act(4, 1, (1 << 30) - 4), MIN);
    }

    private static void p41NoSuchPersonOrAct() {
        int[] people = {-1, 7, 30, MIN, MAX};
        int[] acts = {-1, 3, 4, MIN, MAX};
        for (int person : people) none(person, 0);
        for (int act : acts) none(0, act);
        for (int act : acts) none(6, act);
        none(7, 3);
        ClapTogether x = new ClapTogether();
        Edges.answers(0, x, y -> y.act(0, 0, 5));
    }

    private static void none(int person, int act) {
        ClapTogether x = kinds(3);
        x.act(3, 2, 7);
        Edges.due("bodies ran", x.status(5), 8);
        Edges.answers(0, x, y -> y.act(person, act, 5));
        for (int i = 0; i <= 20; i++) Edges.due("no trace then", x.trace(i), -1);
        Edges.answers(0, x, y -> y.status(5));
    }

    private static void p41TheLastOfThirty() {
        ClapTogether x = Edges.full();
        // person 29 is of kind 1, person 28 of kind 0
        Edges.answers(34, x, y -> y.act(29, 0, 5));
        Edges.answers(33, x, y -> y.act(28, 0, 5));
    }

    private static void p41ByItsPaceNow() {
        ClapTogether x = kinds(9);
        Edges.answers(2 * (4 + 1) + 9, x, y -> y.act(1, 1, 4));
        x.alter(1, 1, 1);
        Edges.answers(2 * (4 + 1) + 1, x, y -> y.act(1, 1, 4));
    }

    private static void p41NothingElseIsChanged() {
        ClapTogether x = Edges.furnished();
        for (int person = 0; person <= 6; person++) x.act(person, 2, 9);
        // as furnished() has it at last
        x.act(3, 2, 5);
        Edges.alike("behind acts", x, Edges.furnished());
    }

    // ---- promise 42

    private static void p42InTheOrderInWhichTheyBegan() {
        ClapTogether x = kinds(2);
        for (int kind = 0; kind <= 6; kind++) {
            for (int act = 0; act <= 2; act++) {
                x.act(kind, act, 1);
                int[] want = BODIES[kind][act];
                for (int i = 0; i < want.length; i++) Edges.due(kind + ", " + act + ": " + i, x.trace(i), want[i]);
                Edges.due("behind the last", x.trace(want.length), -1);
                Edges.due("so many", x.status(5), want.length);
            }
        }
    }

    private static void p42NoneSuch() {
        int[] none = {-1, 8, 9, 19, 20, 21, MIN, MAX};
        for (int i : none) Edges.unchanged(-1, Edges::furnished, y -> y.trace(i));
        Edges.unchanged(50, Edges::furnished, y -> y.trace(0));
        Edges.unchanged(10, Edges::furnished, y -> y.trace(7));
        Edges.unchanged(-1, ClapTogether::new, y -> y.trace(0));
    }

    private static void p42OfTheLatestActAlone() {
        ClapTogether x = kinds(2);
        x.act(3, 2, 1);
        x.act(1, 0, 1);
        Edges.answers(10, x, y -> y.trace(0));
        for (int i = 1; i <= 8; i++) Edges.due("of the one ahead", x.trace(i), -1);
        Edges.answers(1, x, y -> y.status(5));
    }
}
