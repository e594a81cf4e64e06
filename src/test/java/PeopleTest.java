/** Promises 9 to 14: people come, are told of, move and are altered. */
public final class PeopleTest {
    private static final Check check = new Check();

    public static void main(String[] args) {
        person();
        people();
        personOf();
        move();
        alter();
        glove();
        check.end();
    }

    private static void person() {
        ClapTogether x = new ClapTogether();
        check.due("kind -1", x.person(-1, 0, 100, 1, 0), -1);
        check.due("kind 7", x.person(7, 0, 0, 1, 0), -1);
        check.due("seat -1", x.person(0, -1, 0, 1, 0), -1);
        check.due("seat 48", x.person(0, 48, 0, 1, 0), -1);
        check.due("likes -1", x.person(0, 0, -1, 1, 0), -6);
        check.due("likes 100", x.person(0, 0, 100, 1, 0), -6);
        check.due("pace 0", x.person(0, 0, 0, 0, 0), -6);
        check.due("pace 10", x.person(0, 0, 0, 10, 0), -6);
        check.due("at -1", x.person(0, 0, 0, 1, -1), -6);
        check.due("at 100", x.person(0, 0, 0, 1, 100), -6);
        check.due("none came", x.status(0), 0);
        check.due("least", x.person(0, 0, 0, 1, 0), 0);
        check.due("most", x.person(6, 47, 99, 9, 99), 1);
        check.due("taken", x.person(1, 47, 1, 1, 1), -6);
        for (int i = 2; i < 30; i++) check.due("person", x.person(1, i, 1, 1, 1), i);
        check.due("taken before room", x.person(1, 2, 1, 1, 1), -6);
        check.due("room", x.person(1, 40, 1, 1, 1), -7);
        check.due("thirty", x.status(0), 30);
        check.due("counted -1", x.status(11), 4);
        check.due("counted -6", x.status(16), 8);
        check.due("counted -7", x.status(17), 1);
    }

    private static void people() {
        ClapTogether x = new ClapTogether();
        Check.ints(x, 0, 0, 0, 1, 2, 3, 4, 5, 6, 7, 8, 0, 0, 9, 9, 9, 1, 1, 1, 1, 1);
        check.due("people until one on a taken seat", x.people(0, 0, 20), 2);
        check.due("what the second is", x.personOf(1, 4) * 10000 + x.personOf(1, 3) * 1000
            + x.personOf(1, 2) * 100 + x.personOf(1, 1) * 10 + x.personOf(1, 0), 87654);
        check.due("no refusal", x.status(16), 0);
        check.due("people from within", x.people(0, 15, 5), 1);
        check.due("no people", x.people(0, 20, 0), 0);
        check.due("from below", x.people(0, -1, 5), -5);
        check.due("to beyond", x.people(0, 16, 5), -5);
        check.due("beyond before no multiple", x.people(0, 16, 6), -5);
        check.due("far beyond", x.people(0, Integer.MAX_VALUE, Integer.MAX_VALUE), -5);
        check.due("no multiple", x.people(0, 0, 4), -6);
        check.due("below", x.people(0, -1, -5), -4);
        check.due("no shelf", x.people(8, 0, -5), -1);
        check.due("nothing", x.people(1, 0, -5), -3);
        x.show(1, 0);
        check.due("a person", x.people(1, 0, -5), -2);
        x.row(2, 3, 5);
        long[] wide = {0x100000002L, 0x500000020L, 0x900000000L + 50, -0x100000000L + 3, 0x700000000L};
        for (int i = 0; i < 5; i++) x.set(2, i, wide[i]);
        check.due("longs as ints", x.people(2, 0, 5), 1);
        check.due("longs as ints: seat", x.personOf(3, 1), 32);
        check.due("longs as ints: pace", x.personOf(3, 3), 3);
        for (int i = 0; i < 24; i++) x.person(1, i + 6, 1, 1, 1);
        check.due("so many", x.status(0), 28);
        Check.ints(x, 3, 0, 40, 1, 1, 1, 0, 41, 1, 1, 1, 0, 42, 1, 1, 1);
        check.due("people until no room", x.people(3, 0, 15), 2);
        check.due("thirty", x.status(0), 30);
        check.due("no refusal for room", x.status(17), 0);
    }

    private static void personOf() {
        ClapTogether x = new ClapTogether();
        x.person(1, 11, 99, 4, 0);
        int[] at0 = {1, 11, 99, 4, 0, 0, 0, 0, 0, 0};
        for (int what = 0; what < 10; what++) check.due("personOf " + what, x.personOf(0, what), at0[what]);
        x.alter(0, 3, 3);
        x.glove(0, true);
        x.tick(3);
        int[] then = {1, 11, 99, 4, 0, 3, 1, 2, 1, 1};
        for (int what = 0; what < 10; what++) check.due("then personOf " + what, x.personOf(0, what), then[what]);
        x.tick(10);
        check.due("done", x.personOf(0, 6), 2);
        check.due("done: no ticks", x.personOf(0, 7), 0);
        check.due("stands on", x.personOf(0, 8), 1);
        check.due("no such one", x.personOf(1, 0), -5);
        check.due("no such one", x.personOf(-1, 0), -5);
        check.due("another what", x.personOf(0, 10), -5);
        check.due("another what", x.personOf(0, -1), -5);
        check.due("counted", x.status(15), 4);
    }

    private static void move() {
        ClapTogether x = new ClapTogether();
        x.person(1, 11, 9, 4, 0);
        x.person(1, 12, 9, 4, 0);
        check.due("move", x.move(0, 47), 11);
        check.due("moved", x.personOf(0, 1), 47);
        check.due("left seat is free", x.move(1, 11), 12);
        check.due("taken by another", x.move(0, 11), -6);
        check.due("taken by itself", x.move(0, 47), -6);
        check.due("no person", x.move(2, 1), -1);
        check.due("no person", x.move(-1, 1), -1);
        check.due("no seat", x.move(0, 48), -1);
        check.due("no seat", x.move(0, -1), -1);
        check.due("counted -1", x.status(11), 4);
        check.due("counted -6", x.status(16), 2);
    }

    private static void alter() {
        ClapTogether x = new ClapTogether();
        x.person(4, 11, 50, 9, 30);
        check.due("likes", x.alter(0, 0, 99), 50);
        check.due("at", x.alter(0, 2, 0), 30);
        check.due("phase", x.alter(0, 3, 8), 0);
        check.due("phase at pace", x.alter(0, 3, 9), -6);
        check.due("pace", x.alter(0, 1, 3), 9);
        check.due("phase modulo pace", x.personOf(0, 5), 2);
        check.due("phase at pace", x.alter(0, 3, 3), -6);
        check.due("pace", x.alter(0, 1, 1), 3);
        check.due("phase is 0", x.alter(0, 3, 0), 0);
        check.due("likes", x.personOf(0, 2), 99);
        check.due("at", x.personOf(0, 4), 0);
        int[][] wrong = {{0, -1}, {0, 100}, {1, 0}, {1, 10}, {2, -1}, {2, 100}, {3, -1}, {3, 1}, {4, 0}, {-1, 0}};
        for (int[] w : wrong) check.due("alter " + w[0] + " to " + w[1], x.alter(0, w[0], w[1]), -6);
        check.due("no person", x.alter(1, 9, 9), -1);
        check.due("counted", x.status(16), wrong.length + 2);
        x.alter(0, 1, 9);
        x.alter(0, 3, 5);
        check.due("a pace above its phase", x.alter(0, 1, 6), 9);
        check.due("leaves the phase", x.personOf(0, 5), 5);
    }

    private static void glove() {
        ClapTogether x = new ClapTogether();
        x.person(4, 11, 50, 9, 30);
        check.due("none as it was", x.glove(0, false), 0);
        check.due("on", x.glove(0, true), 1);
        check.due("on as it was", x.glove(0, true), 0);
        check.due("has it", x.personOf(0, 9), 1);
        check.due("off", x.glove(0, false), 1);
        check.due("has none", x.personOf(0, 9), 0);
        check.due("no person", x.glove(1, true), -1);
        check.due("no person", x.glove(-1, true), -1);
        check.due("counted", x.status(11), 2);
    }
}
