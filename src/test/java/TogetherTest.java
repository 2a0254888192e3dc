/** Promises 24 to 26: agree, twice, next. */
public final class TogetherTest {
    private static final int[] NO_ROWS = {-1, 4, Integer.MIN_VALUE, Integer.MAX_VALUE};

    public static void main(String[] args) {
        agree();
        agreeRefusals();
        twice();
        next();
        nextRefusals();
        Check.end();
    }

    private static void agree() {
        RowsOfTwo x = Check.withRow("1100");
        Check.signs(x, 1, "1000");
        Check.due("agree", x.agree(0, 1, 0), 3);
        // The second's DEALT rows have one hit: two of four agree as much.
        Check.due("CHANCE", x.agree(0, 1, 1), 500000);
        // The first's have two: three of six agree as much with 1000.
        Check.due("CHANCE the other way", x.agree(1, 0, 1), 500000);
        Check.signs(x, 1, "1110");
        Check.signs(x, 2, "0001");
        Check.due("agree", x.agree(1, 2, 0), 0);
        Check.due("CHANCE of any", x.agree(1, 2, 1), 1000000);
        Check.due("CHANCE of any", x.agree(2, 1, 1), 1000000);
        Check.signs(x, 1, "110000");
        Check.signs(x, 2, "111000");
        Check.due("agree", x.agree(1, 2, 0), 5);
        Check.due("CHANCE by three hits", x.agree(1, 2, 1), 200000);
        Check.due("CHANCE by two hits", x.agree(2, 1, 1), 200000);
        Check.signs(x, 1, "111000");
        Check.signs(x, 2, "100000");
        Check.due("CHANCE by one hit", x.agree(1, 2, 1), 500000);
        Check.due("CHANCE by three hits", x.agree(2, 1, 1), 500000);
        Check.signs(x, 1, "101010101010101");
        Check.signs(x, 2, "101010101010101");
        Check.due("agree in all", x.agree(1, 2, 0), 15);
        Check.due("CHANCE of all", x.agree(1, 2, 1), 155);
    }

    private static void agreeRefusals() {
        RowsOfTwo x = Check.withRow("1100");
        Check.signs(x, 1, "10");
        Check.due("unlike lengths", x.agree(0, 1, 0), RowsOfTwo.NOT);
        Check.signs(x, 1, "10?0");
        Check.due("second not WHOLE", x.agree(0, 1, 0), RowsOfTwo.NOT);
        Check.due("first not WHOLE", x.agree(1, 0, 1), RowsOfTwo.NOT);
        Check.due("with itself", x.agree(0, 0, 0), RowsOfTwo.BAD);
        Check.due("not WHOLE, with itself", x.agree(1, 1, 0), RowsOfTwo.BAD);
        Check.due("what 2", x.agree(0, 1, 2), RowsOfTwo.BAD);
        Check.due("what -1", x.agree(0, 1, -1), RowsOfTwo.BAD);
        for (int row : NO_ROWS) {
            Check.due("agree row " + row, x.agree(row, 0, 0), RowsOfTwo.BAD);
            Check.due("agree other " + row, x.agree(0, row, 0), RowsOfTwo.BAD);
        }
    }

    private static void twice() {
        twice("", 0);
        twice("1", 0);
        twice("11", 1);
        twice("10", 2);
        twice("101", 0);
        twice("1010", 1);
        twice("1001", 2);
        twice("011011", 1);
        twice("011100", 2);
        twice("001100", 3);
        twice("001010", 0);
        twice("11011101101110", 1);
        twice("11011100010001", 2);
        twice("11011100111011", 3);
        twice("11011100111010", 0);
        twice("111111111111111", 0);
        RowsOfTwo x = Check.withRow("1?");
        Check.due("twice not WHOLE", x.twice(0), RowsOfTwo.NOT);
        for (int row : NO_ROWS) {
            Check.due("twice row " + row, x.twice(row), RowsOfTwo.BAD);
        }
    }

    private static void twice(String signs, int want) {
        Check.due("twice of " + signs, Check.withRow(signs).twice(0), want);
    }

    private static void next() {
        next("", 0, 0, 0, 1, 2);
        next("1", 0, 1, 1, 2, 3);
        next("?", 0, 0, 0, 1, 2);
        next("1011", 1, 1, 2, 1, 2);
        next("1?11", 1, 1, 1, 2, 3);
        next("11?1", 1, 1, 1, 2, 3);
        next("01101101", 2, 2, 2, 3, 4);
        next("01101?0101", 2, 1, 2, 1, 2);
        next("01101?1101", 2, 1, 1, 2, 3);
        next("000000", 3, 0, 3, 1, 5);
        next("1101101", 4, 1, 1, 2, 3);
        next("11011101101", 4, 2, 2, 3, 4);
        next("1100", 4, 0, 0, 1, 2);
        next("?1100", 4, 0, 0, 1, 2);
        next("111111111111111", 0, 15, 15, 16, 17);
    }

    private static void next(String signs, int k, int hits, int all, int above, int below) {
        RowsOfTwo x = Check.withRow(signs);
        int[] want = {hits, all, above, below};
        for (int what = 0; what < 4; what++) {
            Check.due("next of " + signs + " by " + k + ": " + what, x.next(0, k, what), want[what]);
        }
    }

    private static void nextRefusals() {
        RowsOfTwo x = Check.withRow("110");
        Check.due("not four signs", x.next(0, 4, 0), RowsOfTwo.NOT);
        Check.due("three of three", x.next(0, 3, 1), 0);
        Check.due("no signs", x.next(1, 1, 0), RowsOfTwo.NOT);
        Check.signs(x, 1, "11?11");
        Check.due("the last two", x.next(1, 2, 1), 0);
        Check.due("the last three not seen", x.next(1, 3, 0), RowsOfTwo.NOT);
        Check.due("k -1", x.next(0, -1, 0), RowsOfTwo.BAD);
        Check.due("k 5", x.next(0, 5, 0), RowsOfTwo.BAD);
        Check.due("what -1", x.next(0, 1, -1), RowsOfTwo.BAD);
        Check.due("what 4", x.next(0, 1, 4), RowsOfTwo.BAD);
        for (int row : NO_ROWS) {
            Check.due("next row " + row, x.next(row, 0, 0), RowsOfTwo.BAD);
        }
    }
}
