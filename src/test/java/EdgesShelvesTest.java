/** The edges of promises 1 to 8: a new object, SHELVES and ROWS, what people on SHELVES say. */
public final class EdgesShelvesTest {
    private static final int MIN = Edges.MIN;
    private static final int MAX = Edges.MAX;
    // the shelves of a furnished hall
    private static final int BYTES_3 = 0;
    private static final int SHORTS_4 = 1;
    private static final int INTS_5 = 2;
    private static final int LONGS_2 = 3;
    private static final int PERSON_1 = 4;
    private static final int EMPTY = 5;
    private static final int INTS_0 = 6;
    private static final int BYTES_100 = 7;

    public static void main(String[] args) throws Exception {
        Edges.run(EdgesShelvesTest.class);
    }

    // ---- What it is, promise 1

    private static void p01NobodyIsThereAndNowIs0() {
        ClapTogether x = new ClapTogether();
        Edges.answers(0, x, y -> y.status(0));
        Edges.answers(0, x, y -> y.status(3));
        for (int what = 0; what < 4; what++) Edges.due("many " + what, x.many(what), 0);
        Edges.refused(-1, ClapTogether::new, y -> y.heard(0));
        Edges.refused(-5, ClapTogether::new, y -> y.personOf(0, 0));
    }

    private static void p01SeedIs1() {
        Edges.answers(1, new ClapTogether(), y -> y.status(4));
        Edges.answers(1, new ClapTogether(), y -> y.seed(2));
    }

    private static void p01ShelvesHoldNothing() {
        ClapTogether x = new ClapTogether();
        for (int s = 0; s <= 7; s++) {
            int shelf = s;
            Edges.answers(-1, x, y -> y.holds(shelf));
            Edges.refused(-3, ClapTogether::new, y -> y.set(shelf, 0, 1));
        }
    }

    private static void p01NoLastTick() {
        ClapTogether x = new ClapTogether();
        Edges.answers(0, x, ClapTogether::hits);
        Edges.answers(0, x, ClapTogether::step);
    }

    private static void p01NoneOfWhatMayBeMade() {
        ClapTogether x = new ClapTogether();
        Edges.answers(0, x, y -> y.status(1));
        Edges.answers(0, x, y -> y.status(2));
        Edges.answers(0, x, y -> y.status(5));
        Edges.answers(-1, x, y -> y.trace(0));
        Edges.answers(-1, x, ClapTogether::fault);
        Edges.answers(-1, x, y -> y.force(-1));
        for (int what = 11; what <= 17; what++) Edges.due("status " + what, x.status(what), 0);
    }

    private static void p01The512thCallAnswers() {
        Edges.Call[] calls = {y -> y.tick(100), y -> y.length(-1, 200), y -> y.few(1), y -> y.act(0, 2, 1),
            y -> y.restore(), y -> y.status(3), y -> y.fit(1, 100), y -> y.element(1, 99)};
        // it begins in tick 9; alone it stops when it claps for 5 ticks
        long[] wants = {0, 6, 0, 3, 0, 0, 0, 7};
        for (int i = 0; i < calls.length; i++) {
            ClapTogether x = new ClapTogether();
            x.person(1, 0, 7, 1, 9);
            x.row(1, 0, 100);
            x.set(1, 99, 7);
            for (int call = 4; call <= 511; call++) {
                if (call % 3 == 0) x.image();
                else if (call % 3 == 1) x.row(2, 3, 100);
                else x.copy(1, 1, 0, 0, 100);
            }
            Edges.due("call 512, " + i, calls[i].on(x), wants[i]);
        }
    }

    // ---- promise 2

    private static void p02ShelvesAre0To7() {
        int[] none = {-1, 8, -2, 9, MIN, MAX};
        for (int s : none) Edges.refused(-1, y -> y.row(s, 0, 1));
        ClapTogether x = new ClapTogether();
        for (int s = 0; s <= 7; s++) {
            int shelf = s;
            Edges.answers(1, x, y -> y.row(shelf, 1, 1));
            Edges.due("holds " + s, x.holds(s), 101);
        }
    }

    private static void p02SortsAre0To3() {
        int[] none = {-1, 4, MIN, MAX};
        for (int sort : none) Edges.refused(-6, y -> y.row(EMPTY, sort, 1));
        for (int sort = 0; sort <= 3; sort++) {
            ClapTogether x = new ClapTogether();
            int which = sort;
            Edges.answers(1, x, y -> y.row(0, which, 1));
            Edges.due("holds", x.holds(0), 100 + sort);
        }
    }

    private static void p02SizesAre0To100() {
        int[] below = {-1, -2, MIN};
        for (int n : below) Edges.refused(-4, y -> y.row(EMPTY, 0, n));
        int[] more = {101, 102, MAX};
        for (int n : more) Edges.refused(-7, y -> y.row(EMPTY, 0, n));
        int[] sizes = {0, 1, 2, 99, 100};
        for (int n : sizes) {
            for (int sort = 0; sort <= 3; sort++) {
                ClapTogether x = new ClapTogether();
                int which = sort;
                Edges.answers(1, x, y -> y.row(0, which, n));
                Edges.due("behind the last of " + n, x.set(0, n, 1), -5);
                if (n > 0) Edges.due("the last of " + n, x.set(0, n - 1, 1), 1);
            }
        }
    }

    private static void p02ElementsAre0AtFirst() {
        ClapTogether x = new ClapTogether();
        for (int round = 0; round < 2; round++) {
            x.row(3, 3, 100);
            for (int i = 0; i < 100; i++) {
                Edges.due("element " + i, x.element(3, i), 0);
                x.set(3, i, -1);
            }
        }
    }

    private static void p02ANewRowIsInPlaceOfWhatWas() {
        ClapTogether x = Edges.furnished();
        Edges.answers(1, x, y -> y.row(PERSON_1, 3, 2));
        Edges.due("a person", x.holds(PERSON_1), 103);
        Edges.answers(1, x, y -> y.row(INTS_5, 0, 2));
        Edges.due("a row", x.holds(INTS_5), 100);
        Edges.due("shorter", x.set(INTS_5, 2, 1), -5);
        Edges.due("empty", x.element(INTS_5, 0), 0);
    }

    private static void p02RefusalsInTheirOrder() {
        Edges.refused(-1, y -> y.row(8, 4, -1));
        Edges.refused(-1, y -> y.row(-1, 4, 101));
        Edges.refused(-1, y -> y.row(8, 0, 101));
        Edges.refused(-4, y -> y.row(EMPTY, 4, -1));
        Edges.refused(-4, y -> y.row(EMPTY, -1, -1));
        Edges.refused(-6, y -> y.row(EMPTY, 4, 101));
        Edges.refused(-6, y -> y.row(EMPTY, -1, 101));
    }

    private static void p02ARefusedRowLeavesWhatTheShelfHolds() {
        int[] shelves = {BYTES_3, LONGS_2, PERSON_1, BYTES_100};
        for (int s : shelves) {
            Edges.refused(-4, y -> y.row(s, 0, -1));
            Edges.refused(-6, y -> y.row(s, 4, 1));
            Edges.refused(-7, y -> y.row(s, 0, 101));
        }
    }

    // ---- promise 3

    private static void p03ShelvesAre0To7() {
        int[] none = {-1, 8, MIN, MAX};
        for (int s : none) Edges.refused(-1, y -> y.set(s, 0, 1));
    }

    private static void p03AShelfWithAPerson() {
        Edges.refused(-2, y -> y.set(PERSON_1, 0, 1));
        Edges.refused(-2, y -> y.set(PERSON_1, -1, 1));
    }

    private static void p03AShelfWithNothing() {
        Edges.refused(-3, y -> y.set(EMPTY, 0, 1));
        Edges.refused(-3, y -> y.set(EMPTY, -1, 1));
    }

    private static void p03ElementsThatArentThere() {
        int[] none = {-1, 5, 6, 99, 100, MIN, MAX};
        for (int i : none) Edges.refused(-5, y -> y.set(INTS_5, i, 9));
        Edges.refused(-5, y -> y.set(INTS_0, 0, 9));
        Edges.refused(-5, y -> y.set(BYTES_100, 100, 9));
        ClapTogether x = Edges.furnished();
        int[] there = {0, 1, 4};
        for (int i : there) {
            Edges.answers(1, x, y -> y.set(INTS_5, i, 70 + i));
            Edges.due("element " + i, x.element(INTS_5, i), 70 + i);
        }
        Edges.due("another", x.element(INTS_5, 2), 3);
        Edges.answers(1, x, y -> y.set(BYTES_100, 99, 5));
        Edges.answers(1, x, y -> y.set(BYTES_100, 0, 5));
    }

    private static void p03NoSuchShelfAheadOfNoSuchElement() {
        Edges.refused(-1, y -> y.set(8, -1, 1));
    }

    private static void keeps(int sort, long v, long kept) {
        ClapTogether x = new ClapTogether();
        x.row(0, sort, 3);
        Edges.answers(1, x, y -> y.set(0, 1, v));
        Edges.due("kept of " + v + " by sort " + sort, x.element(0, 1), kept);
        Edges.due("the one ahead", x.element(0, 0), 0);
        Edges.due("the one behind", x.element(0, 2), 0);
    }

    private static void p03BytesKeepTheirLowestBits() {
        long[][] rows = {{127, 127}, {128, -128}, {-128, -128}, {-129, 127}, {255, -1}, {256, 0}, {257, 1},
            {Long.MAX_VALUE, -1}, {Long.MIN_VALUE, 0}, {0x100000000L + 5, 5}, {-1, -1}};
        for (long[] row : rows) keeps(0, row[0], row[1]);
    }

    private static void p03ShortsKeepTheirLowestBits() {
        long[][] rows = {{32767, 32767}, {32768, -32768}, {-32768, -32768}, {-32769, 32767}, {65535, -1}, {65536, 0},
            {65537, 1}, {Long.MAX_VALUE, -1}, {Long.MIN_VALUE, 0}, {128, 128}, {-1, -1}};
        for (long[] row : rows) keeps(1, row[0], row[1]);
    }

    private static void p03IntsKeepTheirLowestBits() {
        long[][] rows = {{MAX, MAX}, {MAX + 1L, MIN}, {MIN, MIN}, {MIN - 1L, MAX}, {0xFFFFFFFFL, -1},
            {0x100000000L, 0}, {0x100000001L, 1}, {Long.MAX_VALUE, -1}, {Long.MIN_VALUE, 0}, {65536, 65536}};
        for (long[] row : rows) keeps(2, row[0], row[1]);
    }

    private static void p03LongsKeepAll() {
        long[] all = {Long.MAX_VALUE, Long.MIN_VALUE, 0x100000000L, -1, MAX + 1L};
        for (long v : all) keeps(3, v, v);
    }

    // ---- promise 4

    private static void p04ShelvesAre0To7() {
        int[] none = {-1, 8, MIN, MAX};
        for (int s : none) {
            Edges.refused(-1, y -> y.copy(s, INTS_5, 0, 0, 1));
            Edges.refused(-1, y -> y.copy(INTS_5, s, 0, 0, 1));
        }
        Edges.refused(-1, y -> y.copy(8, 8, 0, 0, 1));
        ClapTogether x = new ClapTogether();
        Check.ints(x, 0, 6);
        Check.ints(x, 7, 8);
        Edges.answers(1, x, y -> y.copy(0, 7, 0, 0, 1));
        Edges.due("to the last shelf", x.element(7, 0), 6);
    }

    private static void p04AShelfWithAPerson() {
        Edges.refused(-2, y -> y.copy(PERSON_1, INTS_5, 0, 0, 1));
        Edges.refused(-2, y -> y.copy(INTS_5, PERSON_1, 0, 0, 1));
        Edges.refused(-2, y -> y.copy(PERSON_1, PERSON_1, 0, 0, 0));
    }

    private static void p04RowsOfTwoSorts() {
        int[] sorts = {BYTES_3, SHORTS_4, INTS_5, LONGS_2};
        for (int p : sorts) {
            for (int q : sorts) {
                if (p != q) Edges.refused(-2, y -> y.copy(p, q, 0, 0, 1));
            }
        }
        Edges.refused(-2, y -> y.copy(INTS_0, BYTES_3, 0, 0, 0));
    }

    private static void p04EitherShelfWithNothing() {
        Edges.refused(-3, y -> y.copy(EMPTY, INTS_5, 0, 0, 1));
        Edges.refused(-3, y -> y.copy(INTS_5, EMPTY, 0, 0, 1));
        Edges.refused(-3, y -> y.copy(EMPTY, EMPTY, 0, 0, 0));
        Edges.refused(-3, y -> y.copy(LONGS_2, EMPTY, 0, 0, 0));
    }

    private static void p04SizesBelow0() {
        int[] below = {-1, -2, MIN};
        for (int n : below) Edges.refused(-4, y -> y.copy(INTS_5, INTS_5, 0, 0, n));
    }

    private static void p04FirstElementsBelow0() {
        Edges.refused(-5, y -> y.copy(INTS_5, INTS_5, -1, 0, 1));
        Edges.refused(-5, y -> y.copy(INTS_5, INTS_5, 0, -1, 1));
        Edges.refused(-5, y -> y.copy(INTS_5, INTS_5, -1, 0, 0));
        Edges.refused(-5, y -> y.copy(INTS_5, INTS_5, 0, -1, 0));
        Edges.refused(-5, y -> y.copy(INTS_5, INTS_5, MIN, 0, 5));
        Edges.refused(-5, y -> y.copy(INTS_5, INTS_5, 0, MIN, MAX));
    }

    private static void p04AnEndThatIsntThere() {
        Edges.refused(-5, y -> y.copy(INTS_5, INTS_5, 0, 0, 6));
        Edges.refused(-5, y -> y.copy(INTS_5, INTS_5, 1, 0, 5));
        Edges.refused(-5, y -> y.copy(INTS_5, INTS_5, 0, 1, 5));
        Edges.refused(-5, y -> y.copy(INTS_5, INTS_5, 5, 0, 1));
        Edges.refused(-5, y -> y.copy(INTS_5, INTS_5, 0, 5, 1));
        Edges.refused(-5, y -> y.copy(INTS_0, INTS_5, 0, 0, 1));
        Edges.refused(-5, y -> y.copy(INTS_5, INTS_0, 0, 0, 1));
        Edges.refused(-5, y -> y.copy(INTS_5, INTS_5, 1, 0, MAX));
        Edges.refused(-5, y -> y.copy(INTS_5, INTS_5, MAX, 0, 1));
        Edges.refused(-5, y -> y.copy(INTS_5, INTS_5, 0, MAX, MAX));
        ClapTogether x = Edges.furnished();
        Edges.answers(1, x, y -> y.copy(INTS_5, INTS_5, 4, 0, 1));
        Edges.due("the last one", x.element(INTS_5, 0), 5);
        Edges.answers(1, x, y -> y.copy(INTS_5, INTS_5, 1, 4, 1));
        Edges.due("to the last one", x.element(INTS_5, 4), 2);
        Edges.answers(1, x, y -> y.copy(BYTES_100, BYTES_100, 1, 0, 99));
        Edges.due("the last of 100", x.element(BYTES_100, 98), 1);
    }

    private static void p04NoneToCopy() {
        Edges.unchanged(1, Edges::furnished, y -> y.copy(INTS_5, INTS_5, 0, 0, 0));
        Edges.unchanged(1, Edges::furnished, y -> y.copy(INTS_5, INTS_5, 5, 5, 0));
        Edges.unchanged(1, Edges::furnished, y -> y.copy(INTS_0, INTS_5, 0, 5, 0));
        Edges.unchanged(1, Edges::furnished, y -> y.copy(INTS_0, INTS_0, 0, 0, 0));
    }

    private static void p04AsTheyWereAhead() {
        for (int j = 0; j <= 3; j++) {
            for (int i = 0; i <= 3; i++) {
                ClapTogether x = new ClapTogether();
                Check.ints(x, 0, 10, 11, 12, 13, 14, 15);
                Edges.due("copy", x.copy(0, 0, i, j, 3), 1);
                for (int k = 0; k < 6; k++) {
                    Edges.due("element " + k, x.element(0, k), k >= j && k < j + 3 ? 10 + i + k - j : 10 + k);
                }
            }
        }
    }

    private static void p04OneHundredElementsOfEachSort() {
        for (int sort = 0; sort <= 3; sort++) {
            ClapTogether x = new ClapTogether();
            x.row(0, sort, 100);
            x.row(1, sort, 100);
            for (int i = 0; i < 100; i++) x.set(0, i, -1L - i);
            Edges.answers(1, x, y -> y.copy(0, 1, 0, 0, 100));
            for (int i = 0; i < 100; i++) Edges.due("element " + i, x.element(1, i), -1L - i);
        }
        ClapTogether x = new ClapTogether();
        x.row(0, 3, 1);
        x.row(1, 3, 1);
        x.set(0, 0, Long.MIN_VALUE + 5);
        x.copy(0, 1, 0, 0, 1);
        Edges.due("all bits of a long", x.element(1, 0), Long.MIN_VALUE + 5);
    }

    private static void p04RefusalsInTheirOrder() {
        Edges.refused(-1, y -> y.copy(PERSON_1, 8, -1, -1, -1));
        Edges.refused(-1, y -> y.copy(8, EMPTY, -1, -1, -1));
        Edges.refused(-2, y -> y.copy(PERSON_1, EMPTY, -1, -1, -1));
        Edges.refused(-2, y -> y.copy(EMPTY, PERSON_1, -1, -1, -1));
        Edges.refused(-2, y -> y.copy(INTS_5, LONGS_2, -1, -1, -1));
        Edges.refused(-3, y -> y.copy(EMPTY, INTS_5, -1, -1, -1));
        Edges.refused(-3, y -> y.copy(INTS_5, EMPTY, -1, -1, -1));
        Edges.refused(-4, y -> y.copy(INTS_5, INTS_5, -1, -1, -1));
        Edges.refused(-4, y -> y.copy(INTS_5, INTS_5, 9, 9, -1));
    }

    // ---- promise 5

    private static void p05RefusesNothing() {
        int[] shelves = {-1, 8, MIN, MAX, PERSON_1, EMPTY, INTS_0};
        for (int s : shelves) Edges.unchanged(0, Edges::furnished, y -> y.element(s, 0));
        int[] places = {-1, 5, 100, MIN, MAX};
        for (int i : places) Edges.unchanged(0, Edges::furnished, y -> y.element(INTS_5, i));
        Edges.unchanged(0, Edges::furnished, y -> y.element(BYTES_100, 100));
    }

    private static void p05TheFirstAndTheLast() {
        Edges.unchanged(1, Edges::furnished, y -> y.element(INTS_5, 0));
        Edges.unchanged(5, Edges::furnished, y -> y.element(INTS_5, 4));
        Edges.unchanged(1, Edges::furnished, y -> y.element(BYTES_100, 99));
        Edges.unchanged(1L << 40, Edges::furnished, y -> y.element(LONGS_2, 1));
        Edges.unchanged(-7, Edges::furnished, y -> y.element(SHORTS_4, 0));
    }

    // ---- promise 6

    private static void p06ShelvesAre0To7() {
        int[] none = {-1, 8, MIN, MAX};
        for (int s : none) {
            Edges.refused(-1, y -> y.show(s, 0));
            Edges.refused(-1, y -> y.show(s, -1));
        }
        ClapTogether x = Edges.furnished();
        Edges.answers(1, x, y -> y.show(0, 2));
        Edges.answers(1, x, y -> y.show(7, 2));
        Edges.due("held", x.holds(0) + x.holds(7), 4);
    }

    private static void p06PeopleThatAre() {
        int[] none = {-2, 7, 8, 29, 30, 100, MIN, MAX};
        for (int person : none) {
            Edges.refused(-1, y -> y.show(EMPTY, person));
            Edges.refused(-1, y -> y.show(PERSON_1, person));
            Edges.refused(-1, y -> y.show(INTS_5, person));
        }
        Edges.refused(-1, ClapTogether::new, y -> y.show(0, 0));
        ClapTogether x = Edges.full();
        Edges.answers(1, x, y -> y.show(0, 29));
        Edges.due("the last one", x.holds(0), 29);
        Edges.answers(1, x, y -> y.show(0, 0));
        Edges.due("the first one", x.holds(0), 0);
    }

    private static void p06PersonNone() {
        int[] shelves = {PERSON_1, EMPTY, INTS_5};
        for (int s : shelves) {
            ClapTogether x = Edges.furnished();
            Edges.answers(0, x, y -> y.show(s, -1));
            Edges.due("holds NOTHING", x.holds(s), -1);
            Edges.due("elements", x.set(s, 0, 1), -3);
        }
    }

    private static void p06InPlaceOfARow() {
        ClapTogether x = Edges.furnished();
        Edges.answers(1, x, y -> y.show(INTS_5, 6));
        Edges.due("holds", x.holds(INTS_5), 6);
        Edges.due("no row", x.set(INTS_5, 0, 1), -2);
        Edges.due("no element", x.element(INTS_5, 0), 0);
    }

    // ---- promise 7

    private static void p07NoSuchShelf() {
        int[] none = {-1, 8, MIN, MAX};
        for (int s : none) Edges.unchanged(-1, Edges::furnished, y -> y.holds(s));
    }

    private static void p07WhatItHolds() {
        int[] want = {100, 101, 102, 103, 1, -1, 102, 100};
        for (int s = 0; s <= 7; s++) {
            int shelf = s;
            Edges.unchanged(want[s], Edges::furnished, y -> y.holds(shelf));
        }
    }

    // ---- promise 8

    private static void p08ShelvesAre0To7() {
        int[] none = {-1, 8, MIN, MAX};
        for (int s : none) Edges.refused(-1, y -> y.says(s, 0));
    }

    private static void p08KindsAre0To6() {
        int[] none = {-1, 7, MIN, MAX};
        for (int kind : none) {
            Edges.refused(-1, y -> y.says(PERSON_1, kind));
            Edges.refused(-1, y -> y.says(INTS_5, kind));
            Edges.refused(-1, y -> y.says(EMPTY, kind));
        }
    }

    private static void p08AShelfWithARow() {
        for (int kind = 0; kind <= 6; kind++) {
            int as = kind;
            Edges.refused(-2, y -> y.says(INTS_5, as));
            Edges.refused(-2, y -> y.says(BYTES_3, as));
        }
    }

    private static void p08AShelfWithNothing() {
        for (int kind = 0; kind <= 6; kind++) {
            int as = kind;
            Edges.refused(-3, y -> y.says(EMPTY, as));
        }
    }

    private static ClapTogether oneOf(int kind) {
        ClapTogether x = new ClapTogether();
        x.person(kind, 5, 33, 9, 44);
        x.show(6, 0);
        return x;
    }

    private static void p08OfAKindOrOfOneUnderIt() {
        String[] takes = {"0", "01", "02", "023", "024", "025", "016"};
        for (int kind = 0; kind <= 6; kind++) {
            for (int as = 0; as <= 6; as++) {
                int of = kind;
                int wanted = as;
                boolean is = takes[kind].indexOf('0' + as) >= 0;
                if (!is) Edges.refused(-2, () -> oneOf(of), y -> y.says(6, wanted));
                int want = as == 0 ? 33 : as == 1 || as == 6 ? 44 : 0;
                if (is) Edges.unchanged(want, () -> oneOf(of), y -> y.says(6, wanted));
            }
        }
    }

    private static void p08AsClapLikesFrom0To99() {
        ClapTogether x = oneOf(0);
        int[] all = {0, 99};
        for (int likes : all) {
            x.alter(0, 0, likes);
            Edges.answers(likes, x, y -> y.says(6, 0));
        }
    }

    private static void p08AsFirstAndPoliteAt() {
        for (int kind = 1; kind <= 6; kind += 5) {
            ClapTogether x = oneOf(kind);
            int[] all = {0, 99};
            for (int at : all) {
                x.alter(0, 2, at);
                Edges.answers(at, x, y -> y.says(6, 1));
                if (kind == 6) Edges.answers(at, x, y -> y.says(6, 6));
            }
        }
    }

    private static void p08AsCaughtHeardNow() {
        for (int kind = 2; kind <= 5; kind++) {
            ClapTogether x = oneOf(kind);
            Edges.answers(0, x, y -> y.says(6, 2));
            Edges.clapper(x, 4);
            Edges.answers(6, x, y -> y.says(6, 2));
            Edges.clapper(x, 21);
            Edges.answers(10, x, y -> y.says(6, 2));
            x.begin(0);
            Edges.answers(10, x, y -> y.says(6, 2));
        }
    }

    private static void p08AsBesideThoseBesideHimNow() {
        ClapTogether x = oneOf(3);
        Edges.answers(0, x, y -> y.says(6, 3));
        int[] seats = {4, 6, 13};
        for (int i = 0; i < 3; i++) {
            Edges.clapper(x, seats[i]);
            int want = i + 1;
            Edges.answers(want, x, y -> y.says(6, 3));
        }
        Edges.clapper(x, 12);
        Edges.answers(3, x, y -> y.says(6, 3));
    }

    private static void p08AsBeatingPhase() {
        ClapTogether x = oneOf(4);
        int[] all = {0, 8};
        for (int phase : all) {
            x.alter(0, 3, phase);
            Edges.answers(phase, x, y -> y.says(6, 4));
        }
    }

    private static void p08AsFadingTicks() {
        ClapTogether x = oneOf(5);
        x.force(Check.laws(x, "stop 0;tire 0"));
        Edges.answers(0, x, y -> y.says(6, 5));
        x.begin(0);
        Edges.answers(0, x, y -> y.says(6, 5));
        for (int n = 1; n <= 34; n++) {
            x.tick(1);
            Edges.due("for so many ticks", x.says(6, 5), n);
        }
        x.tick(1);
        Edges.due("done", Edges.mood(x, 0), 2);
        Edges.answers(0, x, y -> y.says(6, 5));
    }

    private static void p08RefusalsInTheirOrder() {
        Edges.refused(-1, y -> y.says(8, 7));
        Edges.refused(-1, y -> y.says(EMPTY, 7));
        Edges.refused(-1, y -> y.says(INTS_5, -1));
    }
}
