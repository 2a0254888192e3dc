/** Promises 1 to 7: a new object, sign, read, clear, at, set, shows. */
public final class RowsTest {
    private static final int[] NO_ROWS = {-1, 4, Integer.MIN_VALUE, Integer.MAX_VALUE};

    public static void main(String[] args) {
        newObject();
        sign();
        read();
        clear();
        at();
        set();
        showsNumbers();
        showsRefusals();
        Check.end();
    }

    private static void newObject() {
        RowsOfTwo x = new RowsOfTwo();
        int[] counts = {0, 0, 0, 0, 0, 8, 3, 15, 0};
        for (int what = 0; what < counts.length; what++) {
            Check.due("new count(" + what + ")", x.count(what), counts[what]);
        }
        Check.due("new fault()", x.fault(), 0);
        for (int s = 0; s < 4; s++) {
            Check.due("new lose(" + s + ")", x.lose(s), -11);
        }
    }

    private static void sign() {
        RowsOfTwo x = new RowsOfTwo();
        for (int row = 0; row < 4; row++) {
            for (int i = 1; i <= 15; i++) {
                Check.due("sign", x.sign(row, i % 3 - 1), i);
            }
            Check.due("sign 16", x.sign(row, 1), RowsOfTwo.FULL);
            Check.due("sign 2 behind a full row", x.sign(row, 2), RowsOfTwo.BAD);
            Check.due("count", x.count(row), 15);
            Check.due("at 14", x.at(row, 14), -1);
        }
        RowsOfTwo y = new RowsOfTwo();
        Check.due("sign v 2", y.sign(0, 2), RowsOfTwo.BAD);
        Check.due("sign v -2", y.sign(0, -2), RowsOfTwo.BAD);
        for (int row : NO_ROWS) {
            Check.due("sign row " + row, y.sign(row, 1), RowsOfTwo.BAD);
        }
        Check.due("nothing came", y.count(0), 0);
    }

    private static void read() {
        RowsOfTwo x = new RowsOfTwo();
        Check.due("read LOST", x.read(0, 0), -11);
        Check.due("its FINDING", x.count(8), 1);
        for (int no : NO_ROWS) {
            Check.due("read s " + no, x.read(no, 0), RowsOfTwo.BAD);
            Check.due("read row " + no, x.read(0, no), RowsOfTwo.BAD);
        }
        for (int type = 0; type < 3; type++) {
            x.sheet(0, type, 6);
            int[] items = {1, -1, 0, 1, 2, 1};
            for (int i = 0; i < 6; i++) {
                x.put(0, type, i, items[i]);
            }
            x.clear(0);
            Check.due("read up to a 2", x.read(0, 0), 4);
            Check.due("read again", x.read(0, 0), 4);
            Check.due("count", x.count(0), 8);
            for (int i = 0; i < 8; i++) {
                Check.due("at " + i, x.at(0, i), items[i % 4]);
            }
        }
        x.put(0, 2, 0, -2);
        Check.due("read from a -2", x.read(0, 0), 0);
        x.sheet(1, 0, 40);
        Check.due("read until the row is full", x.read(1, 0), 7);
        Check.due("read behind a full row", x.read(1, 0), 0);
        Check.due("count", x.count(0), 15);
        x.sheet(2, 0, 0);
        Check.due("read no items", x.read(2, 1), 0);
    }

    private static void clear() {
        RowsOfTwo x = Check.withRow("1?0");
        Check.signs(x, 1, "11");
        Check.due("clear", x.clear(0), 3);
        Check.due("clear again", x.clear(0), 0);
        Check.due("the other row", x.count(1), 2);
        Check.due("WHOLE again", x.count(7), 15);
        Check.due("sign behind", x.sign(0, 1), 1);
        Check.due("at", x.at(0, 0), 1);
        for (int row : NO_ROWS) {
            Check.due("clear row " + row, x.clear(row), RowsOfTwo.BAD);
        }
    }

    private static void at() {
        RowsOfTwo x = Check.withRow("10?01");
        int[] signs = {1, 0, -1, 0, 1};
        for (int i = 0; i < 5; i++) {
            Check.due("at " + i, x.at(0, i), signs[i]);
        }
        Check.due("at 5", x.at(0, 5), RowsOfTwo.NOT);
        Check.due("at most", x.at(0, Integer.MAX_VALUE), RowsOfTwo.NOT);
        Check.due("at -1", x.at(0, -1), RowsOfTwo.BAD);
        Check.due("at least", x.at(0, Integer.MIN_VALUE), RowsOfTwo.BAD);
        for (int row : NO_ROWS) {
            Check.due("at row " + row, x.at(row, 0), RowsOfTwo.BAD);
        }
    }

    private static void set() {
        RowsOfTwo x = new RowsOfTwo();
        Check.due("ODDS", x.set(0, 1), 8);
        Check.due("ODDS", x.set(0, 15), 1);
        Check.due("PATTERN", x.set(1, 2), 3);
        Check.due("PATTERN", x.set(1, 127), 2);
        Check.due("ODDS 0", x.set(0, 0), RowsOfTwo.BAD);
        Check.due("ODDS 16", x.set(0, 16), RowsOfTwo.BAD);
        Check.due("PATTERN 1", x.set(1, 1), RowsOfTwo.BAD);
        Check.due("PATTERN 128", x.set(1, 128), RowsOfTwo.BAD);
        Check.due("what 2", x.set(2, 8), RowsOfTwo.BAD);
        Check.due("what -1", x.set(-1, 8), RowsOfTwo.BAD);
        Check.due("ODDS stay", x.count(5), 15);
        Check.due("PATTERN stays", x.count(6), 127);
    }

    private static void showsNumbers() {
        shows("", 3, 0, 0, 0, 0, 0, 15, 0);
        shows("0", 3, 0, 1, 1, 0, 0, 15, 0);
        shows("1", 3, 1, 1, 1, 1, 0, 0, 1);
        shows("0001", 2, 1, 2, 3, 1, 0, 3, 3);
        shows("110111001", 7, 6, 5, 3, 3, 3, 0, 3);
        shows("111111111111111", 127, 15, 1, 15, 15, 14, 0, 10);
        shows("000000000000000", 64, 0, 1, 15, 0, 0, 15, 10);
        shows("101010101010101", 13, 8, 15, 1, 1, 0, 0, 7);
        shows("00000000000001", 5, 1, 2, 13, 1, 0, 13, 1);
        shows("10101", 127, 3, 5, 1, 1, 0, 0, 0);
        shows("000001", 65, 1, 2, 5, 1, 0, 5, 1);
        shows("100100", 36, 2, 4, 2, 1, 0, 0, 1);
        shows("100100", 12, 2, 4, 2, 1, 0, 0, 2);
    }

    private static void shows(String signs, int pattern, int... numbers) {
        RowsOfTwo x = Check.withRow(signs);
        x.set(1, pattern);
        for (int which = 0; which < 7; which++) {
            Check.due("shows " + which + " of " + signs, x.shows(0, which), numbers[which]);
        }
    }

    private static void showsRefusals() {
        RowsOfTwo x = Check.withRow("1?1");
        for (int which = 0; which < 7; which++) {
            Check.due("shows not WHOLE", x.shows(0, which), RowsOfTwo.NOT);
        }
        Check.due("which -1", x.shows(0, -1), RowsOfTwo.BAD);
        Check.due("which 7", x.shows(0, 7), RowsOfTwo.BAD);
        for (int row : NO_ROWS) {
            Check.due("shows row " + row, x.shows(row, 0), RowsOfTwo.BAD);
        }
    }
}
