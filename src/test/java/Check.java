/** Counts the answers of one test program, prints those that are not as due, and ends it. */
final class Check {
    static final long BAD_LONG = Long.MIN_VALUE + 2;
    static final long NOT_LONG = Long.MIN_VALUE + 3;

    private static int looked = 0;
    private static int wrong = 0;

    private Check() {}

    static void due(String call, long got, long want) {
        looked++;
        if (got != want) {
            wrong++;
            System.out.println(call + " answered " + got + ", due is " + want);
        }
    }

    static void holds(String what, boolean isSo) {
        looked++;
        if (!isSo) {
            wrong++;
            System.out.println("not so: " + what);
        }
    }

    static void end() {
        System.out.println(looked + " looked at, " + wrong + " wrong");
        if (wrong != 0) {
            System.exit(1);
        }
    }

    /** Signs as a text: 1, 0, and ? for one that was not seen. */
    static void signs(RowsOfTwo x, int row, String signs) {
        x.clear(row);
        for (int i = 0; i < signs.length(); i++) {
            char c = signs.charAt(i);
            x.sign(row, c == '?' ? RowsOfTwo.NONE : c - '0');
        }
    }

    static void text(RowsOfTwo x, String sentences) {
        x.wipe();
        for (int i = 0; i < sentences.length(); i++) {
            x.type(sentences.charAt(i));
        }
    }

    static RowsOfTwo withRow(String signs) {
        RowsOfTwo x = new RowsOfTwo();
        signs(x, 0, signs);
        return x;
    }

    static RowsOfTwo withText(String sentences) {
        RowsOfTwo x = new RowsOfTwo();
        text(x, sentences);
        return x;
    }

    static void fraction(String call, long above, long below, long wantAbove, long wantBelow) {
        due(call + " above", above, wantAbove);
        due(call + " below", below, wantBelow);
    }
}
