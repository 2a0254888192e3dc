/** Promises 27 to 34: sheet, lose, put, get, copy, write, count, digest. */
public final class SheetsTest {
    private static final int[] NO_SHEETS = {-1, 4, Integer.MIN_VALUE, Integer.MAX_VALUE};
    private static final int LEAST = Integer.MIN_VALUE;
    private static final int MOST = Integer.MAX_VALUE;

    public static void main(String[] args) {
        sheet();
        lose();
        putAndGet();
        itemRefusals();
        copy();
        copyRefusals();
        write();
        count();
        digest();
        Check.end();
    }

    private static void refused(RowsOfTwo x, String call, int got, int finding) {
        Check.due(call, got, -10 - finding);
        Check.due(call + ": count 8", x.count(8), finding);
    }

    private static void sheet() {
        RowsOfTwo x = new RowsOfTwo();
        Check.due("sheet of 0", x.sheet(0, 0, 0), 0);
        Check.due("sheet of 40", x.sheet(3, 2, 40), 40);
        Check.due("sheet of 41", x.sheet(3, 2, 41), RowsOfTwo.BAD);
        Check.due("sheet type 3", x.sheet(3, 3, 1), RowsOfTwo.BAD);
        Check.due("sheet type -1", x.sheet(3, -1, 1), RowsOfTwo.BAD);
        Check.due("type BAD ahead of SIZE", x.sheet(3, 3, -1), RowsOfTwo.BAD);
        for (int s : NO_SHEETS) {
            Check.due("sheet " + s, x.sheet(s, 0, -1), RowsOfTwo.BAD);
        }
        Check.due("no FINDING yet", x.count(8), 0);
        refused(x, "sheet of -1", x.sheet(3, 0, -1), 5);
        refused(x, "sheet of least", x.sheet(1, 0, LEAST), 5);
        Check.due("sheet 3 stays", x.get(3, 2, 39), 0);
        refused(x, "sheet 1 is still LOST", x.lose(1), 1);
        for (int i = 0; i < 40; i++) {
            x.put(3, 2, i, 99);
        }
        Check.due("made anew", x.sheet(3, 2, 40), 40);
        for (int i = 0; i < 40; i++) {
            Check.due("all 0", x.get(3, 2, i), 0);
        }
    }

    private static void lose() {
        RowsOfTwo x = new RowsOfTwo();
        x.sheet(2, 1, 7);
        Check.due("lose", x.lose(2), 7);
        refused(x, "lose again", x.lose(2), 1);
        for (int s : NO_SHEETS) {
            Check.due("lose " + s, x.lose(s), RowsOfTwo.BAD);
        }
        x.sheet(2, 1, 0);
        Check.due("lose no items", x.lose(2), 0);
    }

    private static void putAndGet() {
        RowsOfTwo x = new RowsOfTwo();
        int[] values = {0, 1, -1, 127, 128, -128, -129, 255, 256, 32767, 32768, -32769, 65535, 65536, LEAST, MOST};
        for (int type = 0; type < 3; type++) {
            x.sheet(type, type, values.length);
            for (int i = 0; i < values.length; i++) {
                Check.due("put", x.put(type, type, i, values[i]), 1);
            }
            for (int i = 0; i < values.length; i++) {
                int v = values[i];
                int want = type == 0 ? (byte) v : type == 1 ? (short) v : v;
                Check.due("get of type " + type + " " + v, x.get(type, type, i), want);
            }
        }
    }

    private static void itemRefusals() {
        RowsOfTwo x = new RowsOfTwo();
        x.sheet(0, 1, 3);
        for (int s : NO_SHEETS) {
            Check.due("put " + s, x.put(s, 1, 0, 5), RowsOfTwo.BAD);
            Check.due("get " + s, x.get(s, 1, 0), LEAST);
        }
        Check.due("put type 3", x.put(0, 3, 0, 5), RowsOfTwo.BAD);
        Check.due("put type -1", x.put(0, -1, 0, 5), RowsOfTwo.BAD);
        Check.due("get type 3", x.get(0, 3, 0), LEAST);
        Check.due("BAD ahead of NULL", x.put(1, 3, 0, 5), RowsOfTwo.BAD);
        Check.due("no FINDING yet", x.count(8), 0);
        refused(x, "put LOST", x.put(1, 0, 9, 5), 1);
        refused(x, "put CAST ahead of INDEX", x.put(0, 2, 9, 5), 3);
        refused(x, "put INDEX 3", x.put(0, 1, 3, 5), 2);
        refused(x, "put CAST", x.put(0, 0, 0, 5), 3);
        refused(x, "put INDEX -1", x.put(0, 1, -1, 5), 2);
        refusedGet(x, x.get(1, 0, 9), 1);
        refusedGet(x, x.get(0, 2, 9), 3);
        refusedGet(x, x.get(0, 1, 3), 2);
        refusedGet(x, x.get(0, 0, 0), 3);
        refusedGet(x, x.get(0, 1, LEAST), 2);
        for (int i = 0; i < 3; i++) {
            Check.due("nothing was put", x.get(0, 1, i), 0);
        }
        Check.due("a good call keeps the FINDING", x.count(8), 2);
    }

    private static void refusedGet(RowsOfTwo x, int got, int finding) {
        Check.due("get " + finding, got, LEAST);
        Check.due("get: count 8", x.count(8), finding);
    }

    private static RowsOfTwo withItems() {
        RowsOfTwo x = new RowsOfTwo();
        x.sheet(0, 2, 5);
        x.sheet(1, 2, 4);
        x.sheet(2, 1, 5);
        for (int i = 0; i < 5; i++) {
            x.put(0, 2, i, 10 + i);
        }
        return x;
    }

    private static void items(RowsOfTwo x, int s, int... want) {
        for (int i = 0; i < want.length; i++) {
            Check.due("item " + i + " of " + s, x.get(s, 2, i), want[i]);
        }
    }

    private static void copy() {
        RowsOfTwo x = withItems();
        Check.due("copy", x.copy(0, 1, 1, 0, 4), 1);
        items(x, 1, 11, 12, 13, 14);
        Check.due("copy up, as they were", x.copy(0, 0, 0, 1, 4), 1);
        items(x, 0, 10, 10, 11, 12, 13);
        Check.due("copy down, as they were", x.copy(0, 1, 0, 0, 4), 1);
        items(x, 0, 10, 11, 12, 13, 13);
        Check.due("copy none at the ends", x.copy(0, 5, 1, 4, 0), 1);
        items(x, 1, 11, 12, 13, 14);
    }

    private static void copyRefusals() {
        RowsOfTwo x = withItems();
        for (int s : NO_SHEETS) {
            Check.due("copy from " + s, x.copy(s, 0, 3, 0, 1), RowsOfTwo.BAD);
            Check.due("copy to " + s, x.copy(3, 0, s, 0, 1), RowsOfTwo.BAD);
        }
        Check.due("no FINDING yet", x.count(8), 0);
        refused(x, "from LOST", x.copy(3, -1, 0, 0, 1), 1);
        refused(x, "STORE ahead of INDEX", x.copy(0, -1, 2, 0, 1), 4);
        refused(x, "to LOST", x.copy(0, -1, 3, 0, 1), 1);
        int[][] spans = {
            {-1, 0, 1}, {0, -1, 1}, {0, 0, -1}, {2, 0, 4}, {0, 1, 4}, {0, 0, 5}, {6, 0, 0}, {0, 5, 0},
            {MOST, 0, 1}, {0, MOST, 1}, {0, 0, MOST}, {1, 1, MOST}, {LEAST, 0, 1}, {0, LEAST, 1}, {0, 0, LEAST},
            {MOST, MOST, MOST}, {LEAST, LEAST, LEAST}
        };
        for (int[] span : spans) {
            x.copy(0, 0, 3, 0, 1);
            refused(x, "copy " + span[0] + " " + span[1] + " " + span[2], x.copy(0, span[0], 1, span[1], span[2]), 2);
        }
        items(x, 1, 0, 0, 0, 0);
        items(x, 0, 10, 11, 12, 13, 14);
    }

    private static void write() {
        RowsOfTwo x = Check.withRow("1?01");
        for (int type = 0; type < 3; type++) {
            x.sheet(0, type, 5);
            x.put(0, type, 4, 77);
            Check.due("write all signs", x.write(0, 0), 4);
            int[] want = {1, -1, 0, 1, 77};
            for (int i = 0; i < 5; i++) {
                Check.due("item " + i, x.get(0, type, i), want[i]);
            }
        }
        x.sheet(1, 2, 2);
        Check.due("write to all items", x.write(0, 1), 2);
        items(x, 1, 1, -1);
        Check.due("write no signs", x.write(2, 1), 0);
        for (int no : NO_SHEETS) {
            Check.due("write row " + no, x.write(no, 3), RowsOfTwo.BAD);
            Check.due("write to " + no, x.write(0, no), RowsOfTwo.BAD);
        }
        refused(x, "write LOST", x.write(0, 3), 1);
    }

    private static void count() {
        RowsOfTwo x = new RowsOfTwo();
        Check.signs(x, 0, "1");
        Check.signs(x, 1, "11?");
        Check.signs(x, 2, "0011");
        Check.signs(x, 3, "?");
        Check.text(x, "o=12");
        x.set(0, 11);
        x.set(1, 99);
        x.lose(0);
        int[] want = {1, 3, 4, 1, 4, 11, 99, 5, 1};
        for (int what = 0; what < want.length; what++) {
            Check.due("count " + what, x.count(what), want[what]);
        }
        x.sign(0, RowsOfTwo.NONE);
        Check.due("row 0 is not WHOLE", x.count(7), 4);
        Check.due("count 9", x.count(9), RowsOfTwo.BAD);
        Check.due("count -1", x.count(-1), RowsOfTwo.BAD);
        Check.due("count least", x.count(LEAST), RowsOfTwo.BAD);
        Check.due("count most", x.count(MOST), RowsOfTwo.BAD);
    }

    private static void digest() {
        RowsOfTwo x = new RowsOfTwo();
        digestAsTold(x);
        long atFirst = x.digest();
        x.lose(0);
        Check.due("a FINDING is not in it", x.digest(), atFirst);
        Check.signs(x, 0, "1?0");
        digestAsTold(x);
        Check.signs(x, 3, "0110");
        Check.text(x, "r>2|p=3");
        x.set(0, 5);
        x.set(1, 6);
        digestAsTold(x);
        x.type('+');
        digestAsTold(x);
        Check.due("digest changes nothing", x.digest(), x.digest());
    }

    private static void digestAsTold(RowsOfTwo x) {
        long h = 17;
        for (int what = 0; what < 8; what++) {
            h = h * 31 + x.count(what);
        }
        for (int row = 0; row < 4; row++) {
            for (int i = 0; i < x.count(row); i++) {
                h = h * 31 + x.at(row, i);
            }
            for (int which = 0; which < 7; which++) {
                h = h * 31 + x.shows(row, which);
            }
        }
        long[] rest = {x.fault(), x.shown(10, RowsOfTwo.NONE), x.waits(0), x.waits(1), x.fills(0, 0)};
        for (long each : rest) {
            h = h * 31 + each;
        }
        Check.due("digest", x.digest(), h);
    }
}
