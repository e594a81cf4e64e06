/** Promises 34 to 36 and 40: microphones and what they take. */
public final class MicrophoneTest {
    private static final Check check = new Check();

    public static void main(String[] args) {
        ClapTogether x = new ClapTogether();
        check.due("no seat", x.micro(-1), -1);
        check.due("no seat", x.micro(48), -1);
        check.due("first", x.micro(0), 0);
        check.due("at the same seat", x.micro(0), 1);
        check.due("last seat", x.micro(47), 2);
        x.person(0, 0, 99, 1, 0);
        x.person(0, 1, 99, 2, 0);
        x.person(0, 16, 99, 1, 0);
        for (int i = 0; i < 3; i++) x.begin(i);
        check.due("no last tick", x.sum(0), 0);
        x.tick(1);
        check.due("at a seat itself 12, then 6, 4", x.sum(0), 22);
        check.due("alike", x.sum(1), 22);
        check.due("far ones: 0, 1, 1", x.sum(2), 2);
        check.due("no gloves", x.gloved(0), 0);
        x.glove(1, true);
        check.due("one glove", x.gloved(0), 6);
        x.glove(0, true);
        check.due("two gloves", x.gloved(0), 18);
        check.due("far gloves", x.gloved(2), 1);
        x.tick(1);
        check.due("who hit alone", x.sum(0), 16);
        check.due("who hit with a glove", x.gloved(0), 12);
        x.person(0, 8, 99, 1, 0);
        x.begin(3);
        check.due("begin is no hit", x.sum(0), 16);
        check.due("none such", x.sum(3), -1);
        check.due("none such", x.sum(-1), -1);
        check.due("none such", x.gloved(3), -1);
        check.due("none such", x.gloved(-1), -1);
        judges(x);
        for (int i = 3; i < 8; i++) check.due("micro", x.micro(i), i);
        check.due("no room", x.micro(1), -7);
        check.due("no seat before no room", x.micro(48), -1);
        check.due("eight", x.status(2), 8);
        x.hush();
        check.due("no last tick", x.sum(0), 0);
        check.end();
    }

    private static void judges(ClapTogether x) {
        Check.ints(x, 0, 16, 16, x.sum(2));
        check.due("all are", x.judge(0), -1);
        Check.ints(x, 0, 16, 16, x.sum(2), 99);
        check.due("what is beyond the microphones is free", x.judge(0), -1);
        Check.ints(x, 0, 16, 15, 9);
        check.due("the first that isn't", x.judge(0), 1);
        Check.ints(x, 0, 16);
        check.due("missing ones are 0", x.judge(0), 1);
        Check.ints(x, 0);
        check.due("missing ones are 0", x.judge(0), 0);
        x.row(0, 3, 2);
        x.set(0, 0, 0x700000010L);
        check.due("longs as ints", x.judge(0), 1);
        int counted = x.status(11);
        check.due("no shelf", x.judge(8), -11);
        check.due("nothing", x.judge(1), -13);
        x.show(1, 0);
        check.due("a person", x.judge(1), -12);
        check.due("counted as -1", x.status(11), counted + 1);
        check.due("counted as -2", x.status(12), 1);
        check.due("counted as -3", x.status(13), 1);
        ClapTogether y = new ClapTogether();
        y.row(0, 2, 3);
        y.set(0, 0, 7);
        check.due("no microphones", y.judge(0), -1);
        y.micro(3);
        y.row(0, 2, 0);
        check.due("a sum of 0 is as missing", y.judge(0), -1);
    }
}
