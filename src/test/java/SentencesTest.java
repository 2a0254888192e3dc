/** Promises 8 to 17: type, wipe, fault, holds, shown, nth, share, fills, filled, sure. */
public final class SentencesTest {
    private static final int[] NO_ROWS = {-1, 4, Integer.MIN_VALUE, Integer.MAX_VALUE};

    public static void main(String[] args) {
        typeAndWipe();
        faults();
        holds();
        shown();
        nth();
        share();
        fills();
        filled();
        sure();
        changesAreSeen();
        unseenRowsAreLots();
        Check.end();
    }

    private static void typeAndWipe() {
        RowsOfTwo x = new RowsOfTwo();
        Check.due("wipe nothing", x.wipe(), 0);
        Check.due("type -1", x.type(-1), RowsOfTwo.BAD);
        Check.due("type 256", x.type(256), RowsOfTwo.BAD);
        Check.due("type 0", x.type(0), 1);
        Check.due("type 255", x.type(255), 2);
        Check.due("wipe", x.wipe(), 2);
        for (int i = 1; i <= 60; i++) {
            Check.due("type", x.type("o>1+".charAt((i - 1) % 4)), i);
        }
        Check.due("type 61", x.type('o'), RowsOfTwo.FULL);
        Check.due("type 256 when full", x.type(256), RowsOfTwo.BAD);
        Check.due("count 4", x.count(4), 60);
        Check.due("fault at 60", x.fault(), 60);
        Check.due("wipe", x.wipe(), 60);
        Check.due("count 4", x.count(4), 0);
        Check.due("fault of an empty text", x.fault(), 0);
    }

    private static void faults() {
        fault("", 0);
        fault("o", 1);
        fault("o<", 2);
        fault("o<1", -1);
        fault("o<12", -1);
        fault("o<123", 4);
        fault("o<1o", 3);
        fault("o<1++", 4);
        fault("o<1|", 4);
        fault("o<1|+", 4);
        fault("o<12+r>3|l=0+h<9+b>0|f=15+p=1", -1);
        fault("|o<1", 0);
        fault("+", 0);
        fault("a=1", 0);
        fault("O=1", 0);
        fault("o<=1", 2);
        fault("o =1", 1);
        fault("o=1 ", 3);
        fault("o=-1", 2);
        fault("oo", 1);
        fault("o=/", 2);
        fault("o=:", 2);
        fault("o=1/", 3);
        fault("o=1:", 3);
        fault("x=1+o", 0);
        fault("o=1+r=2+l=3+h=4+b=5+f=6+p=7+o=1+r=2+l=3+h=4+b=5+f=6+p=7+o=1", -1);
        fault("o=1+r=2+l=3+h=4+b=5+f=6+p=7+o=1+r=2+l=3+h=4+b=5+f=6+p=7+o=11", -1);
        fault("o=1+r=2+l=3+h=4+b=5+f=6+p=7+o=1+r=2+l=3+h=4+b=5+f=6+p=7+o=1|", 60);
        fault("o=11+r=22+l=33+h=44+b=55+f=66+p=77+o=11+r=22+l=33+h=44+b=55", -1);
        RowsOfTwo fresh = new RowsOfTwo();
        fresh.type('o');
        Check.due("a text that was never wiped", fresh.fault(), 1);
        RowsOfTwo x = Check.withText("o?");
        x.type('=');
        x.type('1');
        Check.due("a fault stays", x.fault(), 1);
        x.wipe();
        Check.due("but not behind wipe", x.fault(), 0);
        x.type('o');
        x.type('=' + 256);
        Check.due("a refused byte is no byte", x.fault(), 1);
    }

    private static void fault(String text, int want) {
        Check.due("fault of '" + text + "'", Check.withText(text).fault(), want);
    }

    private static void holds() {
        hold("", "o=0+r=0+l=0+h=0+b=0+f=15+p=0", 1);
        hold("1101", "o=3", 1);
        hold("1101", "o<3", 0);
        hold("1101", "o>3", 0);
        hold("1101", "o<4", 1);
        hold("1101", "o>2", 1);
        hold("1101", "o=03", 1);
        hold("1101", "o=3+r=2", 0);
        hold("1101", "r=2|o=3", 1);
        hold("1101", "o=3|r=2", 1);
        hold("1101", "r=2+o=3|b=0|l=2+h=2+b=1+f=0", 1);
        hold("1101", "r=2+o=3|b=0|l=2+h=2+b=1+f=1", 0);
        hold("1101", "r=2+o=3|r=3+b=1|o=0", 1);
        hold("1101", "o=3+o=4", 0);
        hold("1101", "o>99", 0);
        hold("1101", "o<99", 1);
        hold("0000", "f=15", 1);
        hold("1101", "p=3", 1);
        RowsOfTwo x = Check.withText("o=1");
        Check.signs(x, 0, "1?");
        Check.due("holds not WHOLE", x.holds(0), RowsOfTwo.NOT);
        x.type('+');
        Check.due("holds with a FAULT", x.holds(1), RowsOfTwo.NOT);
        for (int row : NO_ROWS) {
            Check.due("holds row " + row, x.holds(row), RowsOfTwo.BAD);
        }
    }

    private static void hold(String signs, String text, int want) {
        RowsOfTwo x = Check.withText(text);
        Check.signs(x, 0, signs);
        Check.due(signs + " holds " + text, x.holds(0), want);
    }

    private static void shown() {
        RowsOfTwo x = Check.withText("l<3");
        // Twice a number of Fibonacci: rows without a run of three.
        int[] many = {1, 2, 4, 6, 10, 16, 26, 42, 68, 110, 178, 288, 466, 754, 1220, 1974};
        for (int n = 0; n <= 15; n++) {
            Check.due("shown " + n, x.shown(n, RowsOfTwo.NONE), many[n]);
        }
        int sum = 0;
        for (int k = 0; k <= 15; k++) {
            sum += x.shown(15, k);
        }
        Check.due("all k together", sum, 1974);
        Check.due("k above n", x.shown(4, 5), 0);
        Check.due("n 4, k 2", x.shown(4, 2), 6);
        Check.due("n 4, k 1", x.shown(4, 1), 2);
        Check.due("n 16", x.shown(16, 0), RowsOfTwo.BAD);
        Check.due("n -1", x.shown(-1, 0), RowsOfTwo.BAD);
        Check.due("k 16", x.shown(3, 16), RowsOfTwo.BAD);
        Check.due("k -2", x.shown(3, -2), RowsOfTwo.BAD);
        x.type('|');
        Check.due("a FAULT", x.shown(3, 0), RowsOfTwo.NOT);
        Check.due("BAD ahead of NOT", x.shown(16, 0), RowsOfTwo.BAD);
    }

    private static void nth() {
        RowsOfTwo x = Check.withText("o=2+b=0");
        int[] rows = {0b10101, 0b11001, 0b11010};
        for (int i = 0; i < rows.length; i++) {
            Check.due("nth(4, " + i + ")", x.nth(4, i), rows[i]);
        }
        Check.due("nth beyond", x.nth(4, 3), RowsOfTwo.NONE);
        Check.due("nth far beyond", x.nth(4, Integer.MAX_VALUE), RowsOfTwo.NONE);
        Check.due("nth i -1", x.nth(4, -1), RowsOfTwo.BAD);
        Check.due("nth n -1", x.nth(-1, 0), RowsOfTwo.BAD);
        Check.due("nth n 16", x.nth(16, 0), RowsOfTwo.BAD);
        Check.due("nth of no sign", x.nth(0, 0), RowsOfTwo.NONE);
        Check.text(x, "o=0");
        Check.due("nth of no sign", x.nth(0, 0), 1);
        Check.due("nth of 15 signs", x.nth(15, 0), 1 << 15);
        Check.text(x, "o<99");
        Check.due("the last of all", x.nth(4, 15), 31);
        Check.due("beyond all", x.nth(4, 16), RowsOfTwo.NONE);
        x.type('+');
        Check.due("a FAULT", x.nth(4, 0), RowsOfTwo.NOT);
        Check.due("BAD ahead of NOT", x.nth(4, -1), RowsOfTwo.BAD);
    }

    private static void share() {
        RowsOfTwo x = Check.withText("o=1");
        Check.fraction("share 2", x.share(2, 0), x.share(2, 1), 1, 2);
        x.set(0, 3);
        Check.fraction("share 2, odds 3", x.share(2, 0), x.share(2, 1), 39, 128);
        Check.fraction("share 0", x.share(0, 0), x.share(0, 1), 0, 1);
        Check.text(x, "o=15");
        x.set(0, 15);
        Check.fraction("share 15", x.share(15, 0), x.share(15, 1), 437893890380859375L, 1L << 60);
        Check.text(x, "o=0");
        x.set(0, 1);
        Check.fraction("share 15", x.share(15, 0), x.share(15, 1), 437893890380859375L, 1L << 60);
        Check.text(x, "o>0");
        Check.fraction("share 15", x.share(15, 0), x.share(15, 1), (1L << 60) - 437893890380859375L, 1L << 60);
        Check.text(x, "o<99");
        Check.fraction("share of all", x.share(15, 0), x.share(15, 1), 1, 1);
        Check.due("what 2", x.share(3, 2), Check.BAD_LONG);
        Check.due("what -1", x.share(3, -1), Check.BAD_LONG);
        Check.due("n 16", x.share(16, 0), Check.BAD_LONG);
        Check.due("n -1", x.share(-1, 0), Check.BAD_LONG);
        x.wipe();
        Check.due("a FAULT", x.share(3, 1), Check.NOT_LONG);
        Check.due("BAD ahead of NOT", x.share(3, 2), Check.BAD_LONG);
    }

    private static void fills() {
        RowsOfTwo x = Check.withRow("?1?");
        Check.due("fills 0", x.fills(0, 0), 4);
        Check.due("fills 1 with a FAULT", x.fills(0, 1), RowsOfTwo.NOT);
        Check.text(x, "r<3");
        Check.due("fills 1", x.fills(0, 1), 3);
        Check.signs(x, 0, "010");
        Check.due("fills of a WHOLE row", x.fills(0, 0), 1);
        Check.due("that does not HOLD", x.fills(0, 1), 0);
        Check.due("fills of no signs", x.fills(1, 0), 1);
        Check.due("that HOLD", x.fills(1, 1), 1);
        Check.signs(x, 2, "???????????????");
        Check.due("fills of 15", x.fills(2, 0), 32768);
        Check.due("that HOLD", x.fills(2, 1), x.shown(15, RowsOfTwo.NONE));
        Check.due("what 2", x.fills(0, 2), RowsOfTwo.BAD);
        Check.due("what -1", x.fills(0, -1), RowsOfTwo.BAD);
        for (int row : NO_ROWS) {
            Check.due("fills row " + row, x.fills(row, 0), RowsOfTwo.BAD);
        }
        x.wipe();
        Check.due("BAD ahead of NOT", x.fills(4, 1), RowsOfTwo.BAD);
    }

    private static void filled() {
        RowsOfTwo x = Check.withRow("1?0?");
        Check.text(x, "o=2");
        Check.fraction("filled", x.filled(0, 0), x.filled(0, 1), 1, 2);
        x.set(0, 12);
        Check.fraction("filled, odds 12", x.filled(0, 0), x.filled(0, 1), 3, 8);
        Check.text(x, "o=3");
        Check.fraction("filled, odds 12", x.filled(0, 0), x.filled(0, 1), 9, 16);
        Check.text(x, "o=4");
        Check.fraction("none", x.filled(0, 0), x.filled(0, 1), 0, 1);
        Check.text(x, "o<9");
        Check.fraction("all", x.filled(0, 0), x.filled(0, 1), 1, 1);
        Check.signs(x, 3, "???????????????");
        Check.text(x, "o=15");
        x.set(0, 1);
        Check.fraction("one of all", x.filled(3, 0), x.filled(3, 1), 1, 1L << 60);
        Check.due("what 2", x.filled(0, 2), Check.BAD_LONG);
        for (int row : NO_ROWS) {
            Check.due("filled row " + row, x.filled(row, 0), Check.BAD_LONG);
        }
        x.wipe();
        Check.due("a FAULT", x.filled(0, 0), Check.NOT_LONG);
    }

    private static void sure() {
        RowsOfTwo x = Check.withRow("?1??0");
        Check.text(x, "h=3");
        int[] want = {-1, 1, 1, -1, 0};
        for (int i = 0; i < 5; i++) {
            Check.due("sure " + i, x.sure(0, i), want[i]);
        }
        Check.text(x, "h=1");
        int[] wantApart = {0, 1, 0, -1, 0};
        for (int i = 0; i < 5; i++) {
            Check.due("sure " + i, x.sure(0, i), wantApart[i]);
        }
        Check.due("sure 5", x.sure(0, 5), RowsOfTwo.NOT);
        Check.signs(x, 2, "0?");
        Check.due("sure of the last", x.sure(2, 1), 1);
        Check.due("sure of most", x.sure(0, Integer.MAX_VALUE), RowsOfTwo.NOT);
        Check.due("sure -1", x.sure(0, -1), RowsOfTwo.BAD);
        Check.due("sure of no signs", x.sure(1, 0), RowsOfTwo.NOT);
        Check.text(x, "o=5");
        Check.due("no FILL HOLDS", x.sure(0, 1), RowsOfTwo.NOT);
        x.wipe();
        Check.due("a FAULT", x.sure(0, 1), RowsOfTwo.NOT);
        for (int row : NO_ROWS) {
            Check.due("sure row " + row, x.sure(row, 0), RowsOfTwo.BAD);
        }
    }

    /** What is kept of SHOWN rows must not outlive the SENTENCES and THE PATTERN. */
    private static void changesAreSeen() {
        RowsOfTwo x = Check.withText("p=1");
        Check.due("p=1", x.shown(4, RowsOfTwo.NONE), 4);
        x.set(1, 7);
        Check.due("PATTERN 11", x.shown(4, RowsOfTwo.NONE), 5);
        Check.due("of 3", x.shown(3, RowsOfTwo.NONE), 2);
        x.type('0');
        Check.due("p=10", x.shown(4, RowsOfTwo.NONE), 0);
        Check.text(x, "p=0");
        Check.due("p=0", x.shown(4, RowsOfTwo.NONE), 8);
        Check.fraction("p=0", x.share(4, 0), x.share(4, 1), 1, 2);
        for (int n = 0; n <= 15; n++) {
            Check.text(x, "o<99");
            Check.due("all of " + n, x.shown(n, RowsOfTwo.NONE), 1 << n);
            Check.text(x, "o>99");
            Check.due("none of " + n, x.shown(n, RowsOfTwo.NONE), 0);
            Check.text(x, "o=0");
            Check.due("one of " + n, x.shown(n, RowsOfTwo.NONE), 1);
        }
    }

    /** The FILLS of a ROW of which no sign was seen are all rows of its length. */
    private static void unseenRowsAreLots() {
        for (String text : new String[] {"o>7", "r=8|p>3", "l<4+b>2", "f=15", "h>3+f<2|r>12", "p=0"}) {
            RowsOfTwo x = Check.withText(text);
            x.set(1, 21);
            for (int n = 0; n <= 15; n++) {
                String call = "of " + n + " signs not seen, " + text;
                int many = x.shown(n, RowsOfTwo.NONE);
                x.set(0, 1 + 7 * n % 15);
                Check.due("fills 0 " + call, x.fills(2, 0), 1 << n);
                Check.due("fills 1 " + call, x.fills(2, 1), many);
                Check.fraction("filled " + call, x.filled(2, 0), x.filled(2, 1), x.share(n, 0), x.share(n, 1));
                Check.due("nth beyond " + call, x.nth(n, many), RowsOfTwo.NONE);
                Check.holds("nth last " + call, many == 0 || x.nth(n, many - 1) >= 1 << n);
                x.sign(2, RowsOfTwo.NONE);
            }
        }
    }
}
