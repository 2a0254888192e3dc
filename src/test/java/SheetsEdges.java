import java.math.BigInteger;

/** Edges of promises 27 to 34: sheet, lose, put, get, copy, write, count, digest. */
final class SheetsEdges {
    private static final int NONE = RowsOfTwo.NONE, BAD = RowsOfTwo.BAD;
    private static final int NULL = -11, INDEX = -12, CAST = -13, STORE = -14, SIZE = -15;
    private static final int LEAST = Edges.LEAST, MOST = Edges.MOST;

    private SheetsEdges() {}

    static void run() {
        Edges.test(27, "A SHEET is a new row of a TYPE with n items: n.", SheetsEdges::sheetOfNoneToForty);
        Edges.test(27, "A SHEET is a new row", SheetsEdges::sheetIsNew);
        Edges.test(27, "BAD: SHEET, TYPE", SheetsEdges::sheetBad);
        Edges.test(27, "above 40;", SheetsEdges::sheetAboveForty);
        Edges.test(27, "SIZE.", SheetsEdges::sheetBelowZero);
        Edges.test(27, "BAD: SHEET, TYPE, above 40; SIZE.", SheetsEdges::sheetBadAheadOfSize);

        Edges.test(28, "It is LOST: how many items it had.", SheetsEdges::loseOfNoneToForty);
        Edges.test(28, "BAD;", SheetsEdges::loseBad);
        Edges.test(28, "NULL.", SheetsEdges::loseLost);

        Edges.test(29, "Item i, treated as of a TYPE, becomes v", SheetsEdges::putFirstToLast);
        Edges.test(29, "(the lowest bits that it has): 1.", SheetsEdges::putLowestBits);
        Edges.test(29, "BAD;", SheetsEdges::putBad);
        Edges.test(29, "NULL;", SheetsEdges::putLost);
        Edges.test(29, "CAST;", SheetsEdges::putOfAnotherType);
        Edges.test(29, "INDEX.", SheetsEdges::putBeyondTheItems);
        Edges.test(29, "BAD; NULL; CAST; INDEX.", SheetsEdges::putRefusalsInOrder);

        Edges.test(30, "Item i of it.", SheetsEdges::getFirstToLast);
        Edges.test(30, "BAD: the least int;", SheetsEdges::getBad);
        Edges.test(30, "so are NULL, CAST, INDEX (count() 8 tells).", SheetsEdges::getFindings);
        Edges.test(30, "BAD: the least int; so are NULL, CAST, INDEX", SheetsEdges::getRefusalsInOrder);

        Edges.test(31, "n items of SHEET s, from i on, come to SHEET t", SheetsEdges::copyNoneToAll);
        Edges.test(31, "(perhaps s, as they were), from j on: 1.", SheetsEdges::copyWithinOneSheet);
        Edges.test(31, "BAD: the SHEETS;", SheetsEdges::copyBad);
        Edges.test(31, "NULL: s, t;", SheetsEdges::copyLost);
        Edges.test(31, "STORE;", SheetsEdges::copyOfUnlikeTypes);
        Edges.test(31, "INDEX: below 0", SheetsEdges::copyBelowZero);
        Edges.test(31, "not so many.", SheetsEdges::copyNotSoMany);
        Edges.test(31, "BAD: the SHEETS; NULL: s, t; STORE; INDEX: below 0", SheetsEdges::copyRefusalsInOrder);

        Edges.test(32, "as many as there are items and signs: how many.", SheetsEdges::writeNoneToAll);
        Edges.test(32, "BAD;", SheetsEdges::writeBad);
        Edges.test(32, "NULL.", SheetsEdges::writeLost);
        Edges.test(32, "BAD; NULL.", SheetsEdges::writeBadAheadOfNull);

        Edges.test(33, "0 to 3 signs of ROWS, 4 bytes of SENTENCES, 5 ODDS, 6 THE PATTERN",
                SheetsEdges::countLeastToMost);
        Edges.test(33, "7 ROWS that are WHOLE (bits)", SheetsEdges::countWholeRows);
        Edges.test(33, "8 the number of the latest FINDING (0 before any).", SheetsEdges::countLatestFinding);
        Edges.test(33, "BAD.", SheetsEdges::countBad);

        Edges.test(34, "h is 17; h becomes 31 h and each of", SheetsEdges::digestOfNewObject);
        Edges.test(34, "count() 0 to 7", SheetsEdges::digestWithoutFinding);
        Edges.test(34, "of each ROW its signs, shows() 0 to 6 (as it is told)", SheetsEdges::digestOfRowsNotWhole);
        Edges.test(34, "fault(); shown(10, NONE) (as it is told)", SheetsEdges::digestWithFault);
        Edges.test(34, "waits() 0, 1; fills() 0 of ROW 0", SheetsEdges::digestOfWaitsAndFills);
        Edges.test(34, "as longs that wrap.", SheetsEdges::digestWraps);
    }

    // ---- promise 27

    private static void sheetOfNoneToForty() {
        for (int s = 0; s < 4; s++) {
            for (int type = 0; type < 3; type++) {
                for (int n = 0; n <= 40; n++) {
                    RowsOfTwo x = new RowsOfTwo();
                    Edges.due("sheet(" + s + ", " + type + ", " + n + ")", x.sheet(s, type, n), n);
                    Edges.due("the item behind the last", x.put(s, type, n, 1), INDEX);
                    if (n > 0) {
                        Edges.due("its last item", x.put(s, type, n - 1, 1), 1);
                    }
                    Edges.due("lose", x.lose(s), n);
                }
            }
        }
    }

    private static void sheetIsNew() {
        RowsOfTwo x = new RowsOfTwo();
        for (int type = 0; type < 3; type++) {
            x.sheet(1, type, 40);
            for (int i = 0; i < 40; i++) {
                Edges.due("item " + i + " of type " + type, x.get(1, type, i), 0);
                x.put(1, type, i, 77);
            }
        }
        x.sheet(1, 2, 3);
        Edges.due("item 3 is no more", x.put(1, 2, 3, 1), INDEX);
        x.sheet(1, 2, 40);
        Edges.due("item 3 is 0", x.get(1, 2, 3), 0);
        x.put(1, 2, 39, 77);
        x.lose(1);
        x.sheet(1, 2, 40);
        Edges.due("item 39 behind lose", x.get(1, 2, 39), 0);
        x.sheet(1, 0, 5);
        Edges.due("it is of the new TYPE", x.put(1, 0, 0, 1), 1);
        Edges.due("and not of the old one", x.put(1, 2, 0, 1), CAST);
        Edges.due("the others are LOST", x.lose(0), NULL);
    }

    private static void sheetBad() {
        Edges.range("s", 0, 3, Edges::rich, (x, s) -> x.sheet(s, 0, 1), BAD);
        Edges.range("type", 0, 2, Edges::rich, (x, type) -> x.sheet(0, type, 1), BAD);
    }

    private static void sheetAboveForty() {
        Edges.range("n", LEAST, 40, Edges::rich, (x, n) -> x.sheet(0, 0, n), BAD);
        Edges.range("n of a LOST one", LEAST, 40, Edges::rich, (x, n) -> x.sheet(3, 2, n), BAD);
    }

    private static void sheetBelowZero() {
        int[] sizes = {-1, -2, -41, LEAST};
        for (int n : sizes) {
            for (int s = 0; s < 4; s++) {
                int sheet = s;
                Edges.refused("sheet(" + s + ", 1, " + n + ")", Edges::rich, x -> x.sheet(sheet, 1, n), SIZE);
            }
        }
        Edges.due("sheet of 0", Edges.after(Edges::rich).sheet(0, 1, 0), 0);
    }

    private static void sheetBadAheadOfSize() {
        Edges.refused("sheet(4, 0, -1)", Edges::rich, x -> x.sheet(4, 0, -1), BAD);
        Edges.refused("sheet(-1, 0, -1)", Edges::rich, x -> x.sheet(-1, 0, -1), BAD);
        Edges.refused("sheet(0, 3, -1)", Edges::rich, x -> x.sheet(0, 3, -1), BAD);
        Edges.refused("sheet(0, -1, -1)", Edges::rich, x -> x.sheet(0, -1, -1), BAD);
    }

    // ---- promise 28

    private static void loseOfNoneToForty() {
        RowsOfTwo x = new RowsOfTwo();
        for (int n = 0; n <= 40; n++) {
            x.sheet(n % 4, n % 3, n);
            Edges.due("lose of " + n, x.lose(n % 4), n);
            Edges.due("it is LOST", x.put(n % 4, n % 3, 0, 1), NULL);
        }
        RowsOfTwo y = Edges.after(Edges::rich);
        y.lose(1);
        Edges.due("the others stay", y.get(2, 2, 3), 7);
        Edges.due("the others stay", y.get(0, 0, 2), 5);
    }

    private static void loseBad() {
        Edges.range("s", 0, 3, Edges::rich, (x, s) -> x.lose(s), BAD);
    }

    private static void loseLost() {
        Edges.refused("lose(3)", Edges::rich, x -> x.lose(3), NULL);
        for (int s = 0; s < 3; s++) {
            int sheet = s;
            Edges.refused("lose(" + s + ") again", x -> {
                Edges.rich(x);
                x.lose(sheet);
            }, x -> x.lose(sheet), NULL);
        }
    }

    // ---- promise 29

    private static void putFirstToLast() {
        for (int type = 0; type < 3; type++) {
            RowsOfTwo x = new RowsOfTwo();
            x.sheet(3, type, 40);
            for (int i = 0; i < 40; i++) {
                Edges.due("put " + i, x.put(3, type, i, 100 - i), 1);
            }
            for (int i = 0; i < 40; i++) {
                Edges.due("get " + i, x.get(3, type, i), 100 - i);
            }
        }
    }

    private static void becomes(int type, int v, int want) {
        RowsOfTwo x = new RowsOfTwo();
        x.sheet(0, type, 3);
        Edges.due("put " + v + " of type " + type, x.put(0, type, 1, v), 1);
        Edges.due("it became", x.get(0, type, 1), want);
        Edges.due("the item ahead", x.get(0, type, 0), 0);
        Edges.due("the item behind", x.get(0, type, 2), 0);
    }

    private static void putLowestBits() {
        becomes(0, 127, 127);
        becomes(0, 128, -128);
        becomes(0, -128, -128);
        becomes(0, -129, 127);
        becomes(0, 255, -1);
        becomes(0, 256, 0);
        becomes(0, -256, 0);
        becomes(0, LEAST, 0);
        becomes(0, MOST, -1);
        becomes(1, 128, 128);
        becomes(1, 32767, 32767);
        becomes(1, 32768, -32768);
        becomes(1, -32768, -32768);
        becomes(1, -32769, 32767);
        becomes(1, 65535, -1);
        becomes(1, 65536, 0);
        becomes(1, LEAST, 0);
        becomes(1, MOST, -1);
        becomes(2, 32768, 32768);
        becomes(2, LEAST, LEAST);
        becomes(2, MOST, MOST);
    }

    private static void putBad() {
        Edges.range("s", 0, 3, Edges::rich, (x, s) -> x.put(s, 0, 0, 9), BAD);
        Edges.range("type", 0, 2, Edges::rich, (x, type) -> x.put(0, type, 0, 9), BAD);
    }

    private static void putLost() {
        for (int type = 0; type < 3; type++) {
            int as = type;
            Edges.refused("put(3, " + type + ", 0, 9)", Edges::rich, x -> x.put(3, as, 0, 9), NULL);
        }
        Edges.refused("put(0, 0, 0, 9) behind lose(0)", x -> {
            Edges.rich(x);
            x.lose(0);
        }, x -> x.put(0, 0, 0, 9), NULL);
    }

    private static void putOfAnotherType() {
        for (int s = 0; s < 3; s++) {
            for (int type = 0; type < 3; type++) {
                int sheet = s;
                int as = type;
                if (s == type) {
                    Edges.due("put of its own TYPE", Edges.after(Edges::rich).put(s, type, 0, 9), 1);
                } else {
                    Edges.refused("put of " + type + " for " + s, Edges::rich, x -> x.put(sheet, as, 0, 9), CAST);
                }
            }
        }
    }

    private static void putBeyondTheItems() {
        int[] sizes = {3, 2, 4};
        for (int s = 0; s < 3; s++) {
            int sheet = s;
            int[] places = {-1, sizes[s], sizes[s] + 1, 39, 40, LEAST, MOST};
            for (int i : places) {
                Edges.refused("put at " + i + " of " + sizes[s], Edges::rich, x -> x.put(sheet, sheet, i, 9), INDEX);
            }
        }
        Edges.refused("put at 0 of no items", x -> x.sheet(0, 0, 0), x -> x.put(0, 0, 0, 9), INDEX);
        Edges.refused("put at 40 of 40", x -> x.sheet(0, 0, 40), x -> x.put(0, 0, 40, 9), INDEX);
    }

    private static void putRefusalsInOrder() {
        Edges.refused("LOST and no such TYPE", Edges::rich, x -> x.put(3, 3, 0, 9), BAD);
        Edges.refused("no such TYPE, no such item", Edges::rich, x -> x.put(0, -1, 99, 9), BAD);
        Edges.refused("LOST and no such item", Edges::rich, x -> x.put(3, 0, 99, 9), NULL);
        Edges.refused("LOST, once of another TYPE", x -> {
            Edges.rich(x);
            x.lose(0);
        }, x -> x.put(0, 2, -1, 9), NULL);
        Edges.refused("another TYPE, no such item", Edges::rich, x -> x.put(0, 1, 99, 9), CAST);
        Edges.refused("another TYPE, below 0", Edges::rich, x -> x.put(0, 2, -1, 9), CAST);
    }

    // ---- promise 30

    private static void getFirstToLast() {
        RowsOfTwo x = Edges.after(Edges::rich);
        int[][] want = {{1, 0, 5}, {300, -1}, {1 << 20, -1, 0, 7}};
        for (int s = 0; s < 3; s++) {
            for (int i = 0; i < want[s].length; i++) {
                Edges.due("get(" + s + ", " + s + ", " + i + ")", x.get(s, s, i), want[s][i]);
            }
        }
        x.put(2, 2, 0, LEAST);
        Edges.due("an item that is the least int", x.get(2, 2, 0), LEAST);
        Edges.due("is no FINDING", x.count(8), 3);
    }

    private static void getBad() {
        int[] no = {LEAST, -1, 4, MOST};
        for (int s : no) {
            Edges.refused("get(" + s + ", 0, 0)", Edges::rich, x -> x.get(s, 0, 0), LEAST);
        }
        int[] noType = {LEAST, -1, 3, MOST};
        for (int type : noType) {
            Edges.refused("get(0, " + type + ", 0)", Edges::rich, x -> x.get(0, type, 0), LEAST);
        }
    }

    private static void getFindings() {
        Edges.refused("get(3, 0, 0)", Edges::rich, x -> x.get(3, 0, 0), LEAST, 1);
        Edges.refused("get(0, 1, 0)", Edges::rich, x -> x.get(0, 1, 0), LEAST, 3);
        Edges.refused("get(1, 2, 0)", Edges::rich, x -> x.get(1, 2, 0), LEAST, 3);
        Edges.refused("get(2, 0, 0)", Edges::rich, x -> x.get(2, 0, 0), LEAST, 3);
        int[] places = {-1, 3, 4, 39, 40, LEAST, MOST};
        for (int i : places) {
            Edges.refused("get(0, 0, " + i + ")", Edges::rich, x -> x.get(0, 0, i), LEAST, 2);
        }
        Edges.refused("get of no items", x -> x.sheet(0, 0, 0), x -> x.get(0, 0, 0), LEAST, 2);
    }

    private static void getRefusalsInOrder() {
        Edges.refused("LOST and no such TYPE", Edges::rich, x -> x.get(3, 3, 0), LEAST);
        Edges.refused("no such TYPE, no such item", Edges::rich, x -> x.get(0, -1, 99), LEAST);
        Edges.refused("LOST and no such item", Edges::rich, x -> x.get(3, 0, -1), LEAST, 1);
        Edges.refused("another TYPE, no such item", Edges::rich, x -> x.get(0, 1, 99), LEAST, 3);
    }

    // ---- promise 31

    private static void counted(RowsOfTwo x) {
        Edges.items(x, 0, 2, 10, 11, 12, 13, 14);
        Edges.items(x, 1, 2, 20, 21, 22);
        Edges.items(x, 2, 1, 30, 31);
    }

    private static void itemsAre(RowsOfTwo x, int s, int... want) {
        for (int i = 0; i < want.length; i++) {
            Edges.due("item " + i + " of SHEET " + s, x.get(s, 2, i), want[i]);
        }
    }

    private static void copyNoneToAll() {
        RowsOfTwo x = Edges.after(SheetsEdges::counted);
        Edges.due("none", x.copy(0, 0, 1, 0, 0), 1);
        Edges.due("none from the end to the end", x.copy(0, 5, 1, 3, 0), 1);
        itemsAre(x, 1, 20, 21, 22);
        Edges.due("the last to the first", x.copy(0, 4, 1, 0, 1), 1);
        itemsAre(x, 1, 14, 21, 22);
        Edges.due("the first to the last", x.copy(0, 0, 1, 2, 1), 1);
        itemsAre(x, 1, 14, 21, 10);
        Edges.due("as many as fit", x.copy(0, 2, 1, 0, 3), 1);
        itemsAre(x, 1, 12, 13, 14);
        Edges.due("all", x.copy(1, 0, 0, 2, 3), 1);
        itemsAre(x, 0, 10, 11, 12, 13, 14);
        x.sheet(2, 2, 40);
        x.sheet(3, 2, 40);
        x.put(2, 2, 39, 9);
        Edges.due("forty", x.copy(2, 0, 3, 0, 40), 1);
        Edges.due("the fortieth", x.get(3, 2, 39), 9);
        x.sheet(2, 2, 0);
        Edges.due("none of none", x.copy(2, 0, 3, 40, 0), 1);
        Edges.due("none to none", x.copy(3, 40, 2, 0, 0), 1);
        for (int type = 0; type < 2; type++) {
            Edges.items(x, 0, type, 1, 2, 3);
            Edges.items(x, 1, type, 4, 5, 6);
            Edges.due("of type " + type, x.copy(0, 1, 1, 0, 2), 1);
            Edges.due("the last that came", x.get(1, type, 1), 3);
            Edges.due("the one behind it", x.get(1, type, 2), 6);
        }
    }

    private static void copyWithinOneSheet() {
        RowsOfTwo x = Edges.after(SheetsEdges::counted);
        Edges.due("up by one", x.copy(0, 0, 0, 1, 4), 1);
        itemsAre(x, 0, 10, 10, 11, 12, 13);
        counted(x);
        Edges.due("down by one", x.copy(0, 1, 0, 0, 4), 1);
        itemsAre(x, 0, 11, 12, 13, 14, 14);
        counted(x);
        Edges.due("up by two", x.copy(0, 0, 0, 2, 3), 1);
        itemsAre(x, 0, 10, 11, 10, 11, 12);
        counted(x);
        Edges.due("to itself", x.copy(0, 0, 0, 0, 5), 1);
        itemsAre(x, 0, 10, 11, 12, 13, 14);
    }

    private static void copyBad() {
        Edges.range("s", 0, 3, Edges::rich, (x, s) -> x.copy(s, 0, 0, 0, 1), BAD);
        Edges.range("t", 0, 3, Edges::rich, (x, t) -> x.copy(0, 0, t, 0, 1), BAD);
    }

    private static void copyLost() {
        Edges.refused("from a LOST one", Edges::rich, x -> x.copy(3, 0, 0, 0, 1), NULL);
        Edges.refused("to a LOST one", Edges::rich, x -> x.copy(0, 0, 3, 0, 1), NULL);
        Edges.refused("from a LOST one to itself", Edges::rich, x -> x.copy(3, 0, 3, 0, 0), NULL);
        Edges.refused("none from a LOST one", Edges::rich, x -> x.copy(3, 0, 0, 0, 0), NULL);
        Edges.refused("none to a LOST one", Edges::rich, x -> x.copy(0, 0, 3, 0, 0), NULL);
    }

    private static void copyOfUnlikeTypes() {
        for (int s = 0; s < 3; s++) {
            for (int t = 0; t < 3; t++) {
                int from = s;
                int to = t;
                if (s == t) {
                    Edges.due("of like TYPES", Edges.after(Edges::rich).copy(s, 0, t, 1, 1), 1);
                } else {
                    Edges.refused("from " + s + " to " + t, Edges::rich, x -> x.copy(from, 0, to, 0, 1), STORE);
                    Edges.refused("none from " + s + " to " + t, Edges::rich, x -> x.copy(from, 0, to, 0, 0), STORE);
                }
            }
        }
    }

    private static void copyRefused(int i, int j, int n) {
        Edges.refused("copy(0, " + i + ", 1, " + j + ", " + n + ")", SheetsEdges::counted,
                x -> x.copy(0, i, 1, j, n), INDEX);
    }

    private static void copyBelowZero() {
        int[] below = {-1, LEAST};
        for (int no : below) {
            copyRefused(no, 0, 0);
            copyRefused(no, 0, 1);
            copyRefused(0, no, 0);
            copyRefused(0, no, 1);
            copyRefused(0, 0, no);
            copyRefused(1, 1, no);
            copyRefused(5, 3, no);
            copyRefused(no, no, no);
            copyRefused(no, 0, MOST);
            copyRefused(0, no, MOST);
        }
        Edges.refused("below 0 in one SHEET", SheetsEdges::counted, x -> x.copy(0, 1, 0, -1, 1), INDEX);
    }

    private static void copyNotSoMany() {
        copyRefused(3, 0, 3);
        copyRefused(4, 0, 2);
        copyRefused(5, 0, 1);
        copyRefused(6, 0, 0);
        copyRefused(0, 0, 4);
        copyRefused(0, 1, 3);
        copyRefused(0, 3, 1);
        copyRefused(0, 4, 0);
        copyRefused(0, 0, MOST);
        copyRefused(1, 1, MOST);
        copyRefused(MOST, 0, 0);
        copyRefused(0, MOST, 0);
        copyRefused(MOST, 0, 1);
        copyRefused(0, MOST, 1);
        copyRefused(MOST, MOST, MOST);
        Edges.refused("into a shorter one's end", SheetsEdges::counted, x -> x.copy(1, 0, 0, 3, 3), INDEX);
        Edges.refused("in one SHEET", SheetsEdges::counted, x -> x.copy(0, 0, 0, 1, 5), INDEX);
        Edges.refused("of no items", x -> {
            counted(x);
            x.sheet(1, 2, 0);
        }, x -> x.copy(1, 0, 0, 0, 1), INDEX);
    }

    private static void copyRefusalsInOrder() {
        Edges.refused("LOST and no such SHEET", Edges::rich, x -> x.copy(3, -1, 4, -1, -1), BAD);
        Edges.refused("no such SHEET and LOST", Edges::rich, x -> x.copy(-1, -1, 3, -1, -1), BAD);
        Edges.refused("LOST and no such items", Edges::rich, x -> x.copy(3, -1, 0, -1, -1), NULL);
        Edges.refused("to LOST and no such items", Edges::rich, x -> x.copy(2, -1, 3, -1, -1), NULL);
        Edges.refused("unlike TYPES and no such items", Edges::rich, x -> x.copy(2, -1, 0, -1, -1), STORE);
        Edges.refused("LOST, once of another TYPE", x -> {
            Edges.rich(x);
            x.lose(0);
        }, x -> x.copy(2, 0, 0, 0, 1), NULL);
    }

    // ---- promise 32

    private static void writeNoneToAll() {
        String signs = "1?0110?10100?11";
        int[] sizes = {0, 1, 7, 14, 15, 16, 40};
        for (int type = 0; type < 3; type++) {
            for (int size : sizes) {
                for (int length = 0; length <= 15; length++) {
                    write(type, size, signs.substring(0, length));
                }
            }
        }
    }

    private static void write(int type, int size, String signs) {
        RowsOfTwo x = new RowsOfTwo();
        Check.signs(x, 3, signs);
        x.sheet(3, type, size);
        for (int i = 0; i < size; i++) {
            x.put(3, type, i, 77);
        }
        String call = signs.length() + " signs to " + size + " items";
        Edges.due(call, x.write(3, 3), Math.min(size, signs.length()));
        for (int i = 0; i < size; i++) {
            int want = i >= signs.length() ? 77 : signs.charAt(i) == '?' ? NONE : signs.charAt(i) - '0';
            Edges.due(call + ": item " + i, x.get(3, type, i), want);
        }
        Edges.due(call + ": the ROW stays", x.count(3), signs.length());
    }

    private static void writeBad() {
        Edges.range("row", 0, 3, Edges::rich, (x, row) -> x.write(row, 0), BAD);
        Edges.range("s", 0, 3, Edges::rich, (x, s) -> x.write(0, s), BAD);
    }

    private static void writeLost() {
        Edges.refused("write(0, 3)", Edges::rich, x -> x.write(0, 3), NULL);
        Edges.refused("write(3, 3), no signs", Edges::rich, x -> x.write(3, 3), NULL);
        Edges.refused("write(0, 2) behind lose(2)", x -> {
            Edges.rich(x);
            x.lose(2);
        }, x -> x.write(0, 2), NULL);
    }

    private static void writeBadAheadOfNull() {
        Edges.refused("write(4, 3)", Edges::rich, x -> x.write(4, 3), BAD);
        Edges.refused("write(-1, 3)", Edges::rich, x -> x.write(-1, 3), BAD);
    }

    // ---- promise 33

    private static void countLeastToMost() {
        RowsOfTwo x = new RowsOfTwo();
        for (int row = 0; row < 4; row++) {
            for (int length = 0; length <= 15; length++) {
                Edges.due("count(" + row + ")", x.count(row), length);
                x.sign(row, length % 2);
            }
            Edges.due("count(" + row + ") behind a refused sign", x.count(row), 15);
        }
        RowsOfTwo y = new RowsOfTwo();
        for (int bytes = 0; bytes <= 60; bytes++) {
            Edges.due("count(4)", y.count(4), bytes);
            y.type('o');
        }
        Edges.due("count(4) behind a refused byte", y.count(4), 60);
        Edges.due("count(5)", y.count(5), 8);
        Edges.due("count(6)", y.count(6), 3);
        int[] odds = {1, 15};
        for (int m : odds) {
            y.set(0, m);
            Edges.due("count(5)", y.count(5), m);
        }
        int[] patterns = {2, 127};
        for (int told : patterns) {
            y.set(1, told);
            Edges.due("count(6)", y.count(6), told);
        }
    }

    private static void countWholeRows() {
        for (int bits = 0; bits < 16; bits++) {
            RowsOfTwo x = new RowsOfTwo();
            Edges.due("of a new object", x.count(7), 15);
            for (int row = 0; row < 4; row++) {
                x.sign(row, (bits >> row & 1) == 1 ? 0 : NONE);
            }
            Edges.due("count(7) of " + bits, x.count(7), bits);
            for (int row = 0; row < 4; row++) {
                x.sign(row, 1);
            }
            Edges.due("with hits behind", x.count(7), bits);
        }
        for (int place = 0; place < 15; place++) {
            RowsOfTwo x = new RowsOfTwo();
            Check.signs(x, 3, "1".repeat(place) + "?" + "1".repeat(14 - place));
            Edges.due("not seen at " + place, x.count(7), 7);
        }
    }

    private static void countLatestFinding() {
        RowsOfTwo x = new RowsOfTwo();
        Edges.due("before any", x.count(8), 0);
        x.sign(4, 0);
        x.at(0, 0);
        Edges.due("behind BAD and NOT", x.count(8), 0);
        x.lose(0);
        Edges.due("NULL", x.count(8), 1);
        x.sheet(0, 0, 1);
        Edges.due("behind what is not refused", x.count(8), 1);
        x.put(0, 0, 1, 0);
        Edges.due("INDEX", x.count(8), 2);
        x.put(0, 1, 1, 0);
        Edges.due("CAST", x.count(8), 3);
        x.sheet(1, 1, 1);
        x.copy(0, 0, 1, 0, 1);
        Edges.due("STORE", x.count(8), 4);
        x.sheet(0, 0, -1);
        Edges.due("SIZE", x.count(8), 5);
        x.get(2, 0, 0);
        Edges.due("NULL by get", x.count(8), 1);
        x.count(9);
        Edges.due("behind BAD", x.count(8), 1);
    }

    private static void countBad() {
        Edges.range("what", 0, 8, Edges::rich, (x, what) -> x.count(what), BAD);
    }

    // ---- promise 34

    /** The digest as the document tells it, from the answers of the other calls. */
    private static long told(RowsOfTwo x) {
        long h = 17;
        for (int what = 0; what <= 7; what++) {
            h = 31 * h + x.count(what);
        }
        for (int row = 0; row < 4; row++) {
            for (int i = 0; i < x.count(row); i++) {
                h = 31 * h + x.at(row, i);
            }
            for (int which = 0; which <= 6; which++) {
                h = 31 * h + x.shows(row, which);
            }
        }
        h = 31 * h + x.fault();
        h = 31 * h + x.shown(10, NONE);
        h = 31 * h + x.waits(0);
        h = 31 * h + x.waits(1);
        return 31 * h + x.fills(0, 0);
    }

    private static void digestIsAsTold(String of, RowsOfTwo x) {
        long want = told(x);
        Edges.due("digest of " + of, x.digest(), want);
        Edges.due("digest again", x.digest(), want);
    }

    private static void digestOfNewObject() {
        digestIsAsTold("a new object", new RowsOfTwo());
        digestIsAsTold("a rich one", Edges.after(Edges::rich));
        digestIsAsTold("one with four WHOLE rows", Edges.after(Edges::whole));
    }

    private static void digestWithoutFinding() {
        RowsOfTwo x = Edges.after(Edges::rich);
        long before = x.digest();
        x.sheet(0, 0, -1);
        Edges.due("count(8) is not in it", x.digest(), before);
        x.sheet(3, 2, 40);
        x.lose(0);
        Edges.due("nor are SHEETS", x.digest(), before);
        Edges.differs("digest behind a sign", Edges.after(y -> {
            Edges.rich(y);
            y.sign(3, 0);
        }).digest(), before);
    }

    private static void digestOfRowsNotWhole() {
        for (int row = 0; row < 4; row++) {
            RowsOfTwo x = Edges.after(Edges::whole);
            Check.signs(x, row, "1?1");
            digestIsAsTold("row " + row + " not WHOLE", x);
        }
        RowsOfTwo y = new RowsOfTwo();
        for (int row = 0; row < 4; row++) {
            Check.signs(y, row, "???????????????");
        }
        digestIsAsTold("rows of 15 signs not seen", y);
    }

    private static void digestWithFault() {
        digestIsAsTold("a FAULT", Edges.after(Edges::faulty));
        digestIsAsTold("no FAULT", Check.withText("o=10"));
        digestIsAsTold("60 bytes", Check.withText("o<9+".repeat(14) + "o<99"));
        digestIsAsTold("a FAULT at 60", Check.withText("o<9+".repeat(15)));
    }

    private static void digestOfWaitsAndFills() {
        int[] odds = {1, 15};
        int[] patterns = {2, 127};
        for (int m : odds) {
            for (int pattern : patterns) {
                RowsOfTwo x = Check.withRow("?".repeat(15));
                x.set(0, m);
                x.set(1, pattern);
                digestIsAsTold("ODDS " + m + ", PATTERN " + pattern, x);
            }
        }
    }

    private static void digestWraps() {
        // 17 by 31 forty times over is far beyond a long: told again in numbers without an end, then cut.
        RowsOfTwo x = new RowsOfTwo();
        BigInteger h = BigInteger.valueOf(17);
        int[] each = {
            0, 0, 0, 0, 0, 8, 3, 15,
            0, 0, 0, 0, 0, 15, 0, 0, 0, 0, 0, 0, 15, 0, 0, 0, 0, 0, 0, 15, 0, 0, 0, 0, 0, 0, 15, 0,
            0, -3, 2, 1, 1
        };
        for (int value : each) {
            h = h.multiply(BigInteger.valueOf(31)).add(BigInteger.valueOf(value));
        }
        Edges.due("digest of a new object", x.digest(), h.longValue());
    }
}
