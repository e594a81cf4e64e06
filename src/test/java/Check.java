/** Counts the answers of a test that are not as due, and ends it. */
final class Check {
    private int wrong = 0;

    void due(String call, long got, long want) {
        if (got == want) return;
        wrong++;
        System.out.println(call + " answered " + got + ", due is " + want);
    }

    void end() {
        if (wrong == 0) return;
        System.out.println(wrong + " answers are not as due");
        System.exit(1);
    }

    /** A ROW of bytes with the letters of a text. */
    static void letters(ClapTogether hall, int shelf, String text) {
        hall.row(shelf, 0, text.length());
        for (int i = 0; i < text.length(); i++) hall.set(shelf, i, text.charAt(i));
    }

    /** A ROW of ints. */
    static void ints(ClapTogether hall, int shelf, int... values) {
        hall.row(shelf, 2, values.length);
        for (int i = 0; i < values.length; i++) hall.set(shelf, i, values[i]);
    }

    static int laws(ClapTogether hall, String text) {
        letters(hall, 7, text);
        return hall.laws(7);
    }
}
