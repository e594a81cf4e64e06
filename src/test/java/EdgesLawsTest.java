import java.util.Random;
import java.util.regex.Matcher;
import java.util.regex.Pattern;

/** The edges of promises 15 to 19: laws read from texts, faults, which are in force; the seed. */
public final class EdgesLawsTest {
    private static final int MIN = Edges.MIN;
    private static final int MAX = Edges.MAX;
    // the shelves of a furnished hall
    private static final int BYTES_3 = 0;
    private static final int INTS_5 = 2;
    private static final int PERSON_1 = 4;
    private static final int EMPTY = 5;
    private static final String[] NAMES = {"catch", "near", "stop", "tire", "half", "see", "stand"};
    private static final int[] AT_FIRST = {12, 2, 3, 2, 20, 2, 80};

    public static void main(String[] args) throws Exception {
        Edges.run(EdgesLawsTest.class);
    }

    // ---- promise 15

    private static void reads(String text, int... want) {
        ClapTogether x = new ClapTogether();
        Check.letters(x, 0, text);
        Edges.answers(0, x, y -> y.laws(0));
        for (int i = 0; i < 7; i++) Edges.due(text + ": law " + i, x.law(0, i), want[i]);
        Edges.due(text + ": fault", x.fault(), -1);
    }

    private static ClapTogether withText(String text) {
        ClapTogether x = Edges.furnished();
        Check.letters(x, 2, text);
        // once ahead, so that the FAULT is alike with and without the call that is refused
        x.laws(2);
        return x;
    }

    private static void faultAt(int place, String text) {
        Edges.refused(-6, () -> withText(text), y -> y.laws(2));
        Edges.due("fault of '" + text + "'", withText(text).fault(), place);
    }

    private static void p15ShelvesAre0To7() {
        int[] none = {-1, 8, MIN, MAX};
        for (int s : none) Edges.refused(-1, y -> y.laws(s));
        ClapTogether x = new ClapTogether();
        for (int s = 0; s <= 7; s += 7) {
            Check.letters(x, s, "see 1");
            int shelf = s;
            Edges.answers(s / 7, x, y -> y.laws(shelf));
        }
    }

    private static void p15AShelfWithAPersonOrNothing() {
        Edges.refused(-2, y -> y.laws(PERSON_1));
        Edges.refused(-3, y -> y.laws(EMPTY));
    }

    private static void p15NumbersAreAsAtFirstIfNotTold() {
        for (int which = 0; which < 7; which++) {
            int[] want = AT_FIRST.clone();
            want[which] = 55;
            reads(NAMES[which] + " 55", want);
        }
    }

    private static void p15NumbersAre0To99Of1Or2Digits() {
        String[] texts = {"0", "1", "9", "10", "11", "98", "99", "00", "01", "09"};
        int[] numbers = {0, 1, 9, 10, 11, 98, 99, 0, 1, 9};
        for (int i = 0; i < texts.length; i++) reads("catch " + texts[i], numbers[i], 2, 3, 2, 20, 2, 80);
        faultAt(8, "catch 100");
        faultAt(8, "catch 000");
        faultAt(8, "catch 999");
        faultAt(6, "catch ");
        faultAt(6, "catch -1");
        faultAt(6, "catch +1");
        faultAt(6, "catch /");
        faultAt(6, "catch :");
        faultAt(7, "catch 1/");
        faultAt(7, "catch 1:");
    }

    private static void p15WhatIsToldLaterCounts() {
        reads("near 7;near 8", 12, 8, 3, 2, 20, 2, 80);
        reads("near 7;stop 4;near 9;near 0", 12, 0, 4, 2, 20, 2, 80);
        reads("see 1;see 2;see 3;see 4;see 5;see 6;see 7;see 8;see 9", 12, 2, 3, 2, 20, 9, 80);
    }

    private static void p15AnyNumberOfTimes() {
        reads("stand 1;half 2;see 3;tire 4;stop 5;near 6;catch 7", 7, 6, 5, 4, 2, 3, 1);
        StringBuilder text = new StringBuilder();
        for (int i = 0; i < 14; i++) text.append("see ").append(i % 10).append(';');
        // 84 letters and 16 more
        reads(text + "stand 12;catch 1", 1, 2, 3, 2, 20, 3, 12);
        reads(text + "stand 12;half 12", 12, 2, 3, 2, 12, 3, 12);
        faultAt(100, text + "stand 12;near 1;");
        faultAt(100, text + "see 12;see 1;see");
        faultAt(99, text + "stand 12;catch x");
    }

    private static void p15AsInts() {
        for (int sort = 0; sort <= 3; sort++) {
            ClapTogether x = new ClapTogether();
            x.row(0, sort, 5);
            for (int i = 0; i < 5; i++) x.set(0, i, "see 7".charAt(i));
            Edges.answers(0, x, y -> y.laws(0));
            Edges.due("see", x.law(0, 5), 7);
        }
        ClapTogether x = new ClapTogether();
        x.row(0, 3, 5);
        for (int i = 0; i < 5; i++) x.set(0, i, "see 7".charAt(i) - (3L + i << 32));
        Edges.answers(0, x, y -> y.laws(0));
        x.set(0, 2, 'e' + (1L << 31));
        Edges.due("all 32 bits count", x.laws(0), -6);
        Edges.due("fault", x.fault(), 2);
        x.row(0, 2, 5);
        for (int i = 0; i < 5; i++) x.set(0, i, "see 7".charAt(i) + (i == 4 ? 65536 : 0));
        Edges.due("of ints too", x.laws(0), -6);
        Edges.due("fault", x.fault(), 4);
        x.row(0, 1, 5);
        for (int i = 0; i < 5; i++) x.set(0, i, "see 7".charAt(i) + (i == 0 ? 256 : 0));
        Edges.due("of shorts too", x.laws(0), -6);
        Edges.due("fault", x.fault(), 0);
    }

    private static ClapTogether withLaws(int count, String last) {
        ClapTogether x = Edges.hall("");
        x.person(2, 1, 90, 1, 1);
        x.person(1, 2, 90, 1, 1);
        for (int i = 0; i < count; i++) Check.laws(x, "see 1");
        x.image();
        Check.letters(x, 2, last);
        return x;
    }

    private static void p15SixAtMost() {
        for (int count = 0; count <= 5; count++) {
            ClapTogether x = withLaws(count, "near 5");
            int want = count;
            Edges.answers(want, x, y -> y.laws(2));
            Edges.due("laws", x.status(1), count + 1);
            Edges.due("near", x.law(count, 1), 5);
        }
        Edges.refused(-7, () -> withLaws(6, "near 5"), y -> y.laws(2));
    }

    private static void p15RefusalsInTheirOrder() {
        Edges.refused(-6, () -> sixAndAFault(), y -> y.laws(2));
        Edges.refused(-2, () -> sixAndAPerson(), y -> y.laws(2));
        Edges.refused(-3, () -> withLaws(6, "near 5"), y -> y.laws(EMPTY));
        Edges.refused(-1, () -> withLaws(6, "near 5"), y -> y.laws(8));
    }

    private static ClapTogether sixAndAFault() {
        ClapTogether x = withLaws(6, "near");
        x.laws(2);
        return x;
    }

    private static ClapTogether sixAndAPerson() {
        ClapTogether x = withLaws(6, "near 5");
        x.show(2, 1);
        return x;
    }

    // ---- promise 16

    private static void p16NoneYet() {
        Edges.unchanged(-1, ClapTogether::new, ClapTogether::fault);
    }

    private static void p16ATextWithNoLetter() {
        faultAt(0, "");
        faultAt(0, " ");
        faultAt(0, "5");
        faultAt(0, ";");
        faultAt(0, "12 34;56");
    }

    private static void p16ATextThatEndsTooEarly() {
        String whole = "catch 10;near 2;stop 3;tire 4;half 5;see 6;stand 7";
        for (int size = 0; size <= whole.length(); size++) {
            String text = whole.substring(0, size);
            boolean isWhole = size > 0 && Character.isDigit(text.charAt(size - 1));
            ClapTogether x = new ClapTogether();
            Check.letters(x, 0, text);
            Edges.due("laws of '" + text + "'", x.laws(0), isWhole ? 0 : -6);
            Edges.due("fault of '" + text + "'", x.fault(), isWhole ? -1 : size);
        }
    }

    private static void p16TheFirstPlaceThatCantStand() {
        String whole = "stand 10;near 2;stop 3;tire 4;half 5;see 6;catch 7";
        for (int place = 0; place < whole.length(); place++) {
            char[] signs = whole.toCharArray();
            signs[place] = '!';
            ClapTogether x = new ClapTogether();
            Check.letters(x, 0, new String(signs));
            Edges.due("laws with a fault at " + place, x.laws(0), -6);
            Edges.due("fault", x.fault(), place);
        }
    }

    private static void p16NamesThatBeginAlike() {
        String[] texts = {"s", "st", "sta", "stan", "stand", "sto", "stop", "se", "see", "sx 1", "stx 1", "stax 1", "stox 1",
            "sex 1", "stanp 1", "stod 1", "seep 1", "stands 1", "stand", "sto 1", "see1", "seand 1", "catchh 1", "SEE 1"};
        int[] places = {1, 2, 3, 4, 5, 3, 4, 2, 3, 1, 2, 3, 3, 2, 4, 3, 3, 5, 5, 3, 3, 2, 5, 0};
        for (int i = 0; i < texts.length; i++) faultAt(places[i], texts[i]);
    }

    private static void p16BehindANumber() {
        faultAt(5, "see 1 ");
        faultAt(5, "see 1,see 2");
        faultAt(6, "see 1;");
        faultAt(6, "see 1;;");
        faultAt(6, "see 1; see 2");
        faultAt(6, "see 12 ");
        faultAt(6, "see 123");
        faultAt(4, "see  1");
        faultAt(0, ";see 1");
    }

    private static void p16TheLatestThatCameToARow() {
        ClapTogether x = Edges.furnished();
        Edges.answers(3, x, ClapTogether::fault);
        int[] others = {8, -1, PERSON_1, EMPTY};
        for (int s : others) {
            x.laws(s);
            Edges.due("behind one that came to no row", x.fault(), 3);
        }
        x.laws(INTS_5);
        Edges.due("behind another fault", x.fault(), 0);
        Check.laws(x, "see 1");
        Edges.due("behind none", x.fault(), -1);
        x.laws(BYTES_3);
        Edges.due("behind a fault again", x.fault(), 3);
        for (int i = 0; i < 4; i++) Check.laws(x, "see 1");
        Edges.due("no room", Check.laws(x, "see 1"), -7);
        Edges.due("that one had no fault", x.fault(), -1);
    }

    private static void p16AgainstAPatternByDraws() {
        Pattern one = Pattern.compile("(?:(?:catch|near|stop|tire|half|see|stand) \\d\\d?;)*"
            + "(?:catch|near|stop|tire|half|see|stand) \\d\\d?");
        Random random = new Random(7);
        String signs = "catnersophlidf ;0129";
        for (int run = 0; run < 3000; run++) {
            StringBuilder text = new StringBuilder();
            for (int k = random.nextInt(3); k >= 0; k--) {
                text.append(NAMES[random.nextInt(7)]).append(' ').append(random.nextInt(100)).append(k > 0 ? ";" : "");
            }
            for (int k = random.nextInt(3); k > 0; k--) {
                int at = random.nextInt(text.length());
                if (random.nextBoolean()) text.setCharAt(at, signs.charAt(random.nextInt(signs.length())));
                else text.deleteCharAt(at);
            }
            ClapTogether x = new ClapTogether();
            Check.letters(x, 0, text.toString());
            int want = faultOf(one, text.toString());
            Edges.due("laws of '" + text + "'", x.laws(0), want < 0 ? 0 : -6);
            Edges.due("fault of '" + text + "'", x.fault(), want);
        }
    }

    private static int faultOf(Pattern one, String text) {
        for (int size = 1; size <= text.length(); size++) {
            Matcher matcher = one.matcher(text.substring(0, size));
            if (!matcher.matches() && !matcher.hitEnd()) return size - 1;
        }
        return one.matcher(text).matches() ? -1 : text.length();
    }

    // ---- promise 17

    private static void p17LawsThatAre() {
        int[] none = {-1, 2, 3, 6, MIN, MAX, -2};
        for (int laws : none) {
            Edges.refused(-5, y -> y.law(laws, 0));
            Edges.refused(-5, y -> y.law(laws, 6));
        }
        Edges.refused(-5, ClapTogether::new, y -> y.law(0, 0));
        Edges.refused(-5, () -> withLaws(6, "near 5"), y -> y.law(6, 0));
        Edges.unchanged(1, () -> withLaws(6, "near 5"), y -> y.law(5, 5));
    }

    private static void p17NumbersAre0To6() {
        int[] none = {-1, 7, 8, MIN, MAX};
        for (int i : none) Edges.refused(-5, y -> y.law(0, i));
        int[] want = {12, 2, 1, 2, 20, 1, 80};
        for (int i = 0; i <= 6; i++) {
            int which = i;
            Edges.unchanged(want[i], Edges::furnished, y -> y.law(1, which));
        }
    }

    // ---- promise 18

    private static void p18LawsThatAreOrNone() {
        int[] none = {-2, 2, 3, 6, MIN, MAX};
        for (int laws : none) Edges.refused(-11, y -> y.force(laws));
        Edges.refused(-11, ClapTogether::new, y -> y.force(0));
        ClapTogether x = Edges.furnished();
        Edges.answers(0, x, y -> y.force(1));
        Edges.answers(1, x, y -> y.force(0));
        Edges.answers(0, x, y -> y.force(0));
        Edges.answers(0, x, y -> y.force(-1));
        Edges.answers(-1, x, y -> y.force(-1));
        Edges.answers(-1, x, y -> y.force(0));
        x = withLaws(6, "near 5");
        Edges.answers(-1, x, y -> y.force(5));
        Edges.answers(5, x, y -> y.force(-1));
    }

    private static void p18NoneIsThoseAtFirst() {
        ClapTogether x = Edges.hall("catch 99;near 99");
        Edges.clapper(x, 0);
        x.person(2, 1, 60, 1, 0);
        Edges.due("by laws 0", x.tick(1), 1);
        x.force(-1);
        Edges.due("by those at first", x.tick(1), 2);
    }

    private static void p18LawsAtFirstAreThoseOfTheDocument() {
        // both sides of each number, by halls that would go another way with one more or less
        String all = "catch 12;near 2;stop 3;tire 2;half 20;see 2;stand 80";
        for (int run = 0; run < 40; run++) {
            ClapTogether x = byDraws(run, "");
            ClapTogether y = byDraws(run, all);
            for (int t = 0; t < 20; t++) {
                Edges.due("tick", x.tick(1), y.tick(1));
                Edges.due("hits", x.hits(), y.hits());
                Edges.due("stand", x.many(2), y.many(2));
                Edges.due("seed", x.status(4), y.status(4));
            }
        }
    }

    private static ClapTogether byDraws(int run, String laws) {
        Random random = new Random(run);
        ClapTogether x = Edges.hall(laws);
        for (int i = 0; i < 25; i++) {
            x.person(random.nextInt(7), random.nextInt(30), random.nextInt(100), 1 + random.nextInt(9), random.nextInt(9));
        }
        return x;
    }

    // ---- promise 19

    private static void p19NothingIsRefused() {
        int[] all = {0, -1, 2, MAX, MIN, 12345};
        ClapTogether x = new ClapTogether();
        int was = 1;
        for (int v : all) {
            int want = was;
            Edges.answers(want, x, y -> y.seed(v));
            Edges.answers(v, x, y -> y.status(4));
            was = v;
        }
    }

    private static void p19OnlyTheSeedChanges() {
        ClapTogether x = Edges.furnished();
        int seed = x.seed(77);
        x.seed(seed);
        Edges.alike("behind a seed and back", x, Edges.furnished());
    }
}
