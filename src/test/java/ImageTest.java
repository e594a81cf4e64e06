/** Promises 43 to 45: the image, what is restored, and how many there are. */
public final class ImageTest {
    private static final Check check = new Check();

    public static void main(String[] args) {
        ClapTogether x = new ClapTogether();
        check.due("none yet", x.restore(), -6);
        x.person(1, 0, 90, 2, 0);
        x.person(4, 1, 90, 3, 0);
        x.micro(5);
        Check.laws(x, "see 1");
        x.force(0);
        x.seed(77);
        x.glove(1, true);
        x.tick(3);
        int[] was = told(x);
        check.due("image", x.image(), 3);
        change(x);
        int refused = x.status(16);
        check.due("restore", x.restore(), 3);
        compare("restored", told(x), was);
        check.due("shelf with one who is", x.holds(0), 1);
        check.due("shelf with one who isn't", x.holds(1), -1);
        check.due("shelf with a row", x.holds(2), 102);
        check.due("its elements stay", x.element(2, 0), 5);
        check.due("the fault stays", x.fault(), 3);
        check.due("the trace stays", x.trace(0), 10);
        check.due("so does how many ran", x.status(5), 1);
        check.due("refusals stay", x.status(16), refused);
        check.due("a new one after all", x.person(0, 40, 1, 1, 1), 2);
        for (int what = 5; what < 10; what++) check.due("as a new one is", x.personOf(2, what), 0);
        check.due("shelf holds nothing for good", x.holds(1), -1);
        check.due("laws by the same number", Check.laws(x, "see 9"), 1);
        check.due("by the same number", x.law(1, 5), 9);
        check.due("by the same number", x.law(1, 0), 12);
        x.hush();
        check.due("restore again", x.restore(), 3);
        compare("restored again", told(x), was);
        x.tick(1);
        check.due("a later image", x.image(), 4);
        x.hush();
        check.due("restores the later", x.restore(), 4);
        counts();
        check.end();
    }

    private static int[] told(ClapTogether x) {
        int[] told = new int[40];
        int n = 0;
        for (int what = 0; what < 5; what++) told[n++] = x.status(what);
        for (int person = 0; person < 2; person++) {
            for (int what = 0; what < 10; what++) told[n++] = x.personOf(person, what);
        }
        told[n++] = x.hits();
        told[n++] = x.step();
        told[n++] = x.sum(0);
        told[n++] = x.force(0);
        for (int i = 0; i < 7; i++) told[n++] = x.law(0, i);
        return told;
    }

    private static void compare(String when, int[] got, int[] want) {
        for (int i = 0; i < got.length; i++) check.due(when + ": told " + i, got[i], want[i]);
    }

    private static void change(ClapTogether x) {
        Check.laws(x, "catch 1;stand 3");
        x.force(1);
        x.micro(9);
        x.tick(5);
        x.person(2, 9, 9, 9, 9);
        x.tick(7);
        x.begin(2);
        x.move(0, 30);
        x.alter(0, 1, 9);
        x.glove(1, false);
        x.seed(5);
        x.show(0, 1);
        x.show(1, 2);
        Check.ints(x, 2, 5, 6);
        Check.laws(x, "see");
        x.act(0, 0, 1);
    }

    private static void counts() {
        ClapTogether x = new ClapTogether();
        x.person(1, 0, 0, 1, 0);
        x.person(1, 1, 0, 1, 0);
        Check.laws(x, "see 1");
        x.micro(1);
        x.micro(1);
        x.micro(1);
        x.tick(4);
        x.act(0, 1, 1);
        int[] want = {2, 1, 3, 4, 1, 3};
        for (int what = 0; what < 6; what++) check.due("status " + what, x.status(what), want[what]);
        int[] others = {-1, 6, 7, 8, 9, 10, 18, 100, Integer.MAX_VALUE, Integer.MIN_VALUE};
        for (int what : others) check.due("status " + what, x.status(what), -1);
        x.heard(9);
        x.show(0, 0);
        x.set(0, 0, 0);
        x.set(1, 0, 0);
        x.row(1, 0, -1);
        x.many(9);
        x.tick(0);
        x.row(1, 0, 101);
        for (int what = 11; what <= 17; what++) check.due("refused " + what, x.status(what), 1);
        x.status(99);
        x.trace(99);
        x.element(9, 9);
        x.holds(9);
        x.act(9, 9, 9);
        for (int what = 11; what <= 17; what++) check.due("not refused " + what, x.status(what), 1);
    }
}
