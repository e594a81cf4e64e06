/** Promises 1 to 8: a new object, SHELVES and ROWS, what people on SHELVES say. */
public final class ShelvesTest {
    private static final Check check = new Check();

    public static void main(String[] args) {
        newObject();
        rows();
        elements();
        copies();
        shows();
        says();
        check.end();
    }

    private static void newObject() {
        ClapTogether x = new ClapTogether();
        for (int what = 0; what <= 17; what++) {
            int want = what == 4 ? 1 : what >= 6 && what <= 10 ? -1 : 0;
            check.due("new: status(" + what + ")", x.status(what), want);
        }
        for (int s = -1; s <= 8; s++) check.due("new: holds(" + s + ")", x.holds(s), -1);
        check.due("new: fault", x.fault(), -1);
        check.due("new: trace", x.trace(0), -1);
        check.due("new: hits", x.hits(), 0);
        check.due("new: step", x.step(), 0);
        check.due("new: force", x.force(-1), -1);
        check.due("new: restore", x.restore(), -6);
        check.due("new: personOf", x.personOf(0, 0), -5);
        for (int what = 0; what < 4; what++) check.due("new: many", x.many(what), 0);
    }

    private static void rows() {
        ClapTogether x = new ClapTogether();
        check.due("row in -1", x.row(-1, 0, 1), -1);
        check.due("row in 8", x.row(8, 9, -1), -1);
        check.due("row below before sort", x.row(0, 9, -1), -4);
        check.due("row sort before room", x.row(0, 4, 101), -6);
        check.due("row sort -1", x.row(0, -1, 1), -6);
        check.due("row room", x.row(0, 0, 101), -7);
        check.due("refused row leaves NOTHING", x.holds(0), -1);
        check.due("row of none", x.row(0, 3, 0), 1);
        check.due("row of 100", x.row(7, 2, 100), 1);
        check.due("holds longs", x.holds(0), 103);
        check.due("holds ints", x.holds(7), 102);
        check.due("last element", x.set(7, 99, 5), 1);
        check.due("a new row", x.row(7, 2, 100), 1);
        check.due("a new row is empty", x.element(7, 99), 0);
        check.due("counted -1", x.status(11), 2);
        check.due("counted -4", x.status(14), 1);
        check.due("counted -6", x.status(16), 2);
        check.due("counted -7", x.status(17), 1);
    }

    private static void elements() {
        ClapTogether x = new ClapTogether();
        long v = 0x123456789ABCDEF0L;
        long[] kept = {(byte) v, (short) v, (int) v, v};
        for (int sort = 0; sort < 4; sort++) {
            x.row(sort, sort, 2);
            check.due("set", x.set(sort, 1, v), 1);
            check.due("element by its lowest bits", x.element(sort, 1), kept[sort]);
            check.due("element untouched", x.element(sort, 0), 0);
            check.due("holds its sort", x.holds(sort), 100 + sort);
        }
        x.set(0, 0, 200);
        check.due("bytes have a sign", x.element(0, 0), -56);
        check.due("set on no shelf", x.set(8, 0, 1), -1);
        check.due("set on nothing", x.set(5, -1, 1), -3);
        check.due("set below", x.set(0, -1, 1), -5);
        check.due("set beyond", x.set(0, 2, 1), -5);
        x.person(1, 1, 1, 1, 1);
        x.show(6, 0);
        check.due("set on a person", x.set(6, 9, 1), -2);
        for (int s = -1; s < 9; s++) check.due("element that isn't there", x.element(s, s < 4 ? 2 : 0), 0);
        check.due("element below", x.element(0, -1), 0);
        check.due("elements refuse nothing", x.status(15), 2);
        check.due("elements refuse nothing", x.status(11), 1);
    }

    private static void copies() {
        ClapTogether x = new ClapTogether();
        Check.ints(x, 0, 1, 2, 3, 4, 5);
        Check.ints(x, 1, 9, 9, 9);
        check.due("copy", x.copy(0, 1, 3, 1, 2), 1);
        check.due("copied", x.element(1, 0) * 100 + x.element(1, 1) * 10 + x.element(1, 2), 945);
        check.due("copy onto itself, up", x.copy(0, 0, 0, 1, 4), 1);
        for (int i = 0; i < 5; i++) check.due("as they were ahead", x.element(0, i), i == 0 ? 1 : i);
        check.due("copy onto itself, down", x.copy(0, 0, 2, 0, 3), 1);
        check.due("as they were ahead", x.element(0, 0) * 100 + x.element(0, 1) * 10 + x.element(0, 2), 234);
        check.due("copy none at the end", x.copy(0, 1, 5, 3, 0), 1);
        check.due("copy none beyond", x.copy(0, 1, 6, 0, 0), -5);
        check.due("copy from below", x.copy(0, 1, -1, 0, 1), -5);
        check.due("copy to below", x.copy(0, 1, 0, -1, 1), -5);
        check.due("copy from beyond", x.copy(0, 1, 4, 0, 2), -5);
        check.due("copy to beyond", x.copy(0, 1, 0, 2, 2), -5);
        check.due("copy far beyond", x.copy(0, 1, Integer.MAX_VALUE, 0, Integer.MAX_VALUE), -5);
        check.due("copy less than none", x.copy(0, 1, -1, 0, -1), -4);
        check.due("copy from no shelf", x.copy(-1, 1, 0, 0, 1), -1);
        check.due("copy to no shelf", x.copy(0, 8, 0, 0, 1), -1);
        check.due("copy from nothing", x.copy(2, 1, 0, 0, -1), -3);
        check.due("copy to nothing", x.copy(0, 2, 0, 0, -1), -3);
        x.row(3, 3, 5);
        check.due("copy to another sort", x.copy(0, 3, 0, 0, -1), -2);
        check.due("another sort and nothing", x.copy(3, 2, 0, 0, 1), -3);
        x.person(0, 0, 0, 1, 0);
        x.show(4, 0);
        check.due("copy from a person", x.copy(4, 2, 0, 0, 1), -2);
        check.due("copy from nothing to a person", x.copy(2, 4, 0, 0, 1), -2);
        check.due("nothing changed", x.element(1, 0) * 100 + x.element(1, 1) * 10 + x.element(1, 2), 945);
    }

    private static void shows() {
        ClapTogether x = new ClapTogether();
        x.person(3, 9, 9, 9, 9);
        check.due("show", x.show(2, 0), 1);
        check.due("holds a person", x.holds(2), 0);
        check.due("show none such", x.show(2, 1), -1);
        check.due("show -2", x.show(2, -2), -1);
        check.due("show on no shelf", x.show(8, 0), -1);
        check.due("show NOTHING on no shelf", x.show(-1, -1), -1);
        check.due("still a person", x.holds(2), 0);
        check.due("show NOTHING", x.show(2, -1), 0);
        check.due("holds NOTHING", x.holds(2), -1);
        x.row(2, 0, 3);
        check.due("show in place of a row", x.show(2, 0), 1);
        check.due("the row is gone", x.set(2, 0, 1), -2);
        x.row(2, 0, 3);
        check.due("a row in place of a person", x.holds(2), 100);
    }

    private static void says() {
        ClapTogether x = new ClapTogether();
        for (int kind = 0; kind < 7; kind++) {
            x.person(kind, 8 + kind, 40 + kind, 9, 20 + kind);
            x.show(kind, kind);
        }
        x.force(Check.laws(x, "catch 99;stop 0;tire 0"));
        x.show(7, -1);
        x.alter(4, 3, 7);
        x.begin(0);
        x.begin(4);
        x.begin(5);
        x.tick(1);
        String[] takes = {"0", "01", "02", "023", "024", "025", "016"};
        for (int person = 0; person < 7; person++) {
            for (int kind = 0; kind < 7; kind++) {
                boolean is = takes[person].indexOf('0' + kind) >= 0;
                if (!is) check.due(person + " says as " + kind, x.says(person, kind), -2);
            }
            check.due("as CLAP", x.says(person, 0), 40 + person);
        }
        check.due("as FIRST", x.says(1, 1), 21);
        check.due("as FIRST, under it", x.says(6, 1), 26);
        check.due("as POLITE", x.says(6, 6), 26);
        for (int person = 2; person < 6; person++) {
            check.due("as CAUGHT", x.says(person, 2), x.heard(person));
        }
        check.due("as BESIDE", x.says(3, 3), x.beside(3));
        check.due("as BEATING, that has lagged once", x.says(4, 4), 8);
        check.due("as FADING", x.says(5, 5), x.personOf(5, 7));
        check.due("as FADING", x.says(5, 5), 1);
        x.hush();
        check.due("as FADING, not clapping", x.says(5, 5), 0);
        check.due("says on no shelf", x.says(8, 0), -1);
        check.due("says of no kind", x.says(0, 7), -1);
        check.due("says of kind -1, NOTHING", x.says(7, -1), -1);
        check.due("says of NOTHING", x.says(7, 0), -3);
        x.row(7, 0, 0);
        check.due("says of a row", x.says(7, 0), -2);
    }
}
