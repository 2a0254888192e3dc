/** Promises 18 to 21: dealt, strangest, hot, already. */
public final class DealtTest {
    private static final int[] NO_ROWS = {-1, 4, Integer.MIN_VALUE, Integer.MAX_VALUE};

    public static void main(String[] args) {
        dealt();
        dealtRefusals();
        strangest();
        hot();
        already();
        Check.end();
    }

    private static void dealt() {
        // Of 0011 0101 0110 1001 1010 1100.
        RowsOfTwo x = Check.withRow("0110");
        x.set(1, 5);
        int[] few = {1000000, 666666, 1000000, 1000000, 1000000, 833333, 833333};
        int[] much = {1000000, 666666, 666666, 500000, 500000, 500000, 833333};
        for (int which = 0; which < 7; which++) {
            Check.due("FEW " + which, x.dealt(0, which, false), few[which]);
            Check.due("MUCH " + which, x.dealt(0, which, true), much[which]);
        }
        for (int which = 0; which < 7; which++) {
            Check.due("FEW of no signs", x.dealt(1, which, false), 1000000);
            Check.due("MUCH of no signs", x.dealt(1, which, true), 1000000);
        }
        Check.signs(x, 2, "000000000000001");
        Check.due("f FEW", x.dealt(2, 5, false), 1000000);
        Check.due("f MUCH", x.dealt(2, 5, true), 66666);
    }

    private static void dealtRefusals() {
        RowsOfTwo x = Check.withRow("01?0");
        Check.due("not WHOLE", x.dealt(0, 1, true), RowsOfTwo.NOT);
        Check.due("which 7", x.dealt(0, 7, true), RowsOfTwo.BAD);
        Check.due("which -1", x.dealt(0, -1, false), RowsOfTwo.BAD);
        for (int row : NO_ROWS) {
            Check.due("dealt row " + row, x.dealt(row, 0, true), RowsOfTwo.BAD);
            Check.due("strangest row " + row, x.strangest(row), RowsOfTwo.BAD);
        }
    }

    private static void strangest() {
        strangest("0", 3, 2);
        strangest("1111", 3, 2);
        strangest("01010101", 3, 3);
        strangest("00001111", 3, 2);
        strangest("0110", 3, 7);
        strangest("0110", 11, 13);
        strangest("0101", 11, 3);
        strangest("0111", 3, 2);
        strangest("1100110", 13, 12);
        RowsOfTwo x = Check.withRow("0?");
        Check.due("not WHOLE", x.strangest(0), RowsOfTwo.NOT);
        Check.due("without signs", x.strangest(1), RowsOfTwo.NOT);
    }

    private static void strangest(String signs, int pattern, int want) {
        RowsOfTwo x = Check.withRow(signs);
        x.set(1, pattern);
        Check.due("strangest of " + signs, x.strangest(0), want);
    }

    private static void hot() {
        RowsOfTwo x = Check.withRow("111011110111111");
        Check.fraction("hot 1", x.hot(0, 1, 0), x.hot(0, 1, 1), 5, 6);
        Check.fraction("hot 2", x.hot(0, 2, 0), x.hot(0, 2, 1), 7, 9);
        Check.fraction("hot 3", x.hot(0, 3, 0), x.hot(0, 3, 1), 2, 3);
        Check.fraction("hot 4", x.hot(0, 4, 0), x.hot(0, 4, 1), 2, 3);
        Check.signs(x, 1, "10");
        Check.fraction("hot of 10", x.hot(1, 1, 0), x.hot(1, 1, 1), 0, 1);
        Check.due("none behind two", x.hot(1, 2, 0), Check.NOT_LONG);
        Check.signs(x, 1, "01");
        Check.due("none behind the last", x.hot(1, 1, 0), Check.NOT_LONG);
        Check.due("no signs", x.hot(2, 1, 0), Check.NOT_LONG);
        Check.signs(x, 1, "11?");
        Check.due("not WHOLE", x.hot(1, 1, 0), Check.NOT_LONG);
        Check.due("k 0", x.hot(1, 0, 0), Check.BAD_LONG);
        Check.due("k 5", x.hot(1, 5, 0), Check.BAD_LONG);
        Check.due("what 2", x.hot(1, 1, 2), Check.BAD_LONG);
        for (int row : NO_ROWS) {
            Check.due("hot row " + row, x.hot(row, 1, 0), Check.BAD_LONG);
        }
    }

    private static void already() {
        // Of two hits in three: 110 has 1 by 2, 101 0 by 1, 011 1 by 1.
        RowsOfTwo x = Check.withRow("011");
        Check.fraction("already 1", x.already(0, 1, 0), x.already(0, 1, 1), 1, 2);
        Check.fraction("already 2", x.already(0, 2, 0), x.already(0, 2, 1), 0, 1);
        Check.due("none behind three", x.already(0, 3, 0), Check.NOT_LONG);
        Check.signs(x, 1, "0111");
        Check.fraction("already 2", x.already(1, 2, 0), x.already(1, 2, 1), 1, 2);
        Check.signs(x, 1, "01");
        Check.fraction("the row itself has none", x.already(1, 1, 0), x.already(1, 1, 1), 0, 1);
        Check.due("no signs", x.already(2, 1, 0), Check.NOT_LONG);
        Check.signs(x, 1, "0000");
        Check.due("no hits", x.already(1, 1, 0), Check.NOT_LONG);
        Check.signs(x, 1, "11?");
        Check.due("not WHOLE", x.already(1, 1, 0), Check.NOT_LONG);
        Check.due("k 0", x.already(1, 0, 0), Check.BAD_LONG);
        Check.due("k 5", x.already(1, 5, 0), Check.BAD_LONG);
        Check.due("what -1", x.already(1, 1, -1), Check.BAD_LONG);
        for (int row : NO_ROWS) {
            Check.due("already row " + row, x.already(row, 1, 0), Check.BAD_LONG);
        }
    }
}
