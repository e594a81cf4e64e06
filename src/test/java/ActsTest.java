/** Promises 41 and 42: acts and the trace, against the same bodies written as classes. */
public final class ActsTest {
    private static final Check check = new Check();
    private static int[] ran = new int[100];
    private static int count;

    private static class Clap {
        int m;
        int k;
        void note(int body) { ran[count++] = body; }
        int hears(int x) { note(10); return x + m; }
        int begins(int x) { note(11); return hears(x) * 2; }
        int steps(int x) { note(12); return begins(x) ^ hears(x - k); }
    }

    private static class First extends Clap {
        int begins(int x) { note(20); return super.begins(x) + k; }
    }

    private static class Caught extends Clap {
        int hears(int x) { note(30); return super.hears(x) * 3; }
    }

    private static final class Beside extends Caught {
        int hears(int x) { note(40); return super.hears(x + 1); }
    }

    private static final class Beating extends Caught {
        int steps(int x) { note(50); return super.steps(x) - m; }
        int begins(int x) { note(51); return -super.begins(x); }
    }

    private static final class Fading extends Caught {
        int steps(int x) { note(60); return super.steps(x) ^ 5; }
    }

    private static final class Polite extends First {
        int begins(int x) { note(70); return super.begins(x) * 2; }
        int hears(int x) { note(71); return super.hears(x - k); }
    }

    public static void main(String[] args) {
        Clap[] all = {new Clap(), new First(), new Caught(), new Beside(), new Beating(), new Fading(), new Polite()};
        int[] xs = {0, 1, -1, 7, 1000000007, Integer.MAX_VALUE, Integer.MIN_VALUE};
        ClapTogether x = new ClapTogether();
        for (int kind = 0; kind < 7; kind++) x.person(kind, kind, 1, 9 - kind, 1);
        for (int kind = 0; kind < 7; kind++) {
            all[kind].m = kind;
            all[kind].k = 9 - kind;
            for (int with : xs) {
                for (int act = 0; act < 3; act++) {
                    if (with != 7 && act != 2) continue;
                    compare(x, all[kind], kind, act, with);
                }
            }
        }
        refusals(x);
        check.end();
    }

    private static void compare(ClapTogether x, Clap model, int kind, int act, int with) {
        count = 0;
        String name = "act(" + kind + ", " + act + ", " + with + ")";
        int want = act == 0 ? model.hears(with) : act == 1 ? model.begins(with) : model.steps(with);
        check.due(name, x.act(kind, act, with), want);
        if (with != 7) return;
        check.due(name + ": ran", x.status(5), count);
        for (int i = 0; i <= count; i++) check.due(name + ": trace " + i, x.trace(i), i < count ? ran[i] : -1);
    }

    private static void refusals(ClapTogether x) {
        int[][] none = {{7, 0}, {-1, 0}, {0, 3}, {0, -1}, {1, 3}, {1, -1}, {6, Integer.MAX_VALUE}, {6, Integer.MIN_VALUE}};
        for (int[] call : none) {
            x.act(0, 0, 5);
            check.due("a trace", x.trace(0), 10);
            check.due("no such", x.act(call[0], call[1], 5), 0);
            check.due("no trace then", x.trace(0), -1);
            check.due("none ran then", x.status(5), 0);
        }
        x.act(0, 0, 5);
        check.due("before the trace", x.trace(-1), -1);
        check.due("behind the trace", x.trace(1), -1);
        check.due("far behind it", x.trace(20), -1);
        for (int refusal = 11; refusal <= 17; refusal++) check.due("nothing refused", x.status(refusal), 0);
    }
}
