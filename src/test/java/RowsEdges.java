/** Edges of promises 1 to 7: a new object, sign, read, clear, at, set, shows. */
final class RowsEdges {
    private static final int NONE = RowsOfTwo.NONE, BAD = RowsOfTwo.BAD, NOT = RowsOfTwo.NOT, FULL = RowsOfTwo.FULL;
    private static final int NULL = -11;
    private static final String FIFTEEN = "101100111000101";

    private RowsEdges() {}

    static void run() {
        Edges.test(1, "Empty ROWS", RowsEdges::newRowsAreEmpty);
        Edges.test(1, "all SHEETS are LOST", RowsEdges::newSheetsAreLost);
        Edges.test(1, "A new object", RowsEdges::newObjectHasNothingOfAnother);

        Edges.test(2, "A sign comes behind a ROW: how many it has then.", RowsEdges::signUpToFifteen);
        Edges.test(2, "BAD;", RowsEdges::signBad);
        Edges.test(2, "FULL.", RowsEdges::signBehindFifteen);
        Edges.test(2, "BAD; FULL.", RowsEdges::signBadAheadOfFull);

        Edges.test(3, "as long as each may be (1, 0, -1)", RowsEdges::readUpToWhatMayNotBe);
        Edges.test(3, "Signs of a SHEET come behind a ROW, item by item", RowsEdges::readAllItems);
        Edges.test(3, "as long as each may be", RowsEdges::readUntilFull);
        Edges.test(3, "how many.", RowsEdges::readTellsHowManyCame);
        Edges.test(3, "BAD;", RowsEdges::readBad);
        Edges.test(3, "NULL.", RowsEdges::readLost);
        Edges.test(3, "BAD; NULL.", RowsEdges::readBadAheadOfNull);

        Edges.test(4, "A ROW is empty: how many signs it had.", RowsEdges::clearEmptyToFull);
        Edges.test(4, "BAD.", RowsEdges::clearBad);

        Edges.test(5, "Sign i of a ROW.", RowsEdges::atFirstToLast);
        Edges.test(5, "BAD;", RowsEdges::atBad);
        Edges.test(5, "NOT: it is not so long.", RowsEdges::atBehindTheLast);
        Edges.test(5, "BAD; NOT", RowsEdges::atBadAheadOfNot);
        Edges.test(5, "(NONE: not seen.)", RowsEdges::atNotSeen);

        Edges.test(6, "ODDS (what = 0: m)", RowsEdges::setOddsLeastToMost);
        Edges.test(6, "THE PATTERN (1: as a number, as at first(), of 1 to 6 signs: 2 to 127)",
                RowsEdges::setPatternLeastToMost);
        Edges.test(6, "what it was.", RowsEdges::setTellsWhatItWas);
        Edges.test(6, "BAD.", RowsEdges::setBad);

        Edges.test(7, "A number (0 o, 1 r, 2 l, 3 h, 4 b, 5 f, 6 p) of a ROW.", RowsEdges::showsEachNumber);
        Edges.test(7, "BAD;", RowsEdges::showsBad);
        Edges.test(7, "NOT.", RowsEdges::showsWithOneSignNotSeen);
        Edges.test(7, "BAD; NOT.", RowsEdges::showsBadAheadOfNot);
    }

    // ---- promise 1

    private static void newRowsAreEmpty() {
        RowsOfTwo x = new RowsOfTwo();
        for (int row = 0; row < 4; row++) {
            Edges.due("count(" + row + ")", x.count(row), 0);
            Edges.due("at(" + row + ", 0)", x.at(row, 0), NOT);
            Edges.due("clear(" + row + ")", x.clear(row), 0);
        }
        Edges.due("count(7)", x.count(7), 15);
    }

    private static void newSheetsAreLost() {
        for (int s = 0; s < 4; s++) {
            int sheet = s;
            Edges.refused("lose(" + s + ")", x -> {}, x -> x.lose(sheet), NULL);
            Edges.refused("read(" + s + ", 0)", x -> {}, x -> x.read(sheet, 0), NULL);
            Edges.refused("write(0, " + s + ")", x -> {}, x -> x.write(0, sheet), NULL);
            Edges.refused("put(" + s + ", 0, 0, 1)", x -> {}, x -> x.put(sheet, 0, 0, 1), NULL);
            Edges.refused("get(" + s + ", 0, 0)", x -> {}, x -> x.get(sheet, 0, 0), Edges.LEAST, 1);
        }
    }

    private static void newObjectHasNothingOfAnother() {
        Edges.after(Edges::rich);
        newRowsAreEmpty();
        int[] counts = {0, 0, 0, 0, 0, 8, 3, 15, 0};
        for (int what = 0; what < counts.length; what++) {
            Edges.due("count(" + what + ")", new RowsOfTwo().count(what), counts[what]);
        }
        Edges.due("fault()", new RowsOfTwo().fault(), 0);
    }

    // ---- promise 2

    private static void signUpToFifteen() {
        for (int row = 0; row < 4; row++) {
            RowsOfTwo x = new RowsOfTwo();
            for (int i = 0; i < 15; i++) {
                Edges.due("sign " + i + " of row " + row, x.sign(row, FIFTEEN.charAt(i) - '0'), i + 1);
            }
            for (int i = 0; i < 15; i++) {
                Edges.due("at(" + row + ", " + i + ")", x.at(row, i), FIFTEEN.charAt(i) - '0');
            }
            for (int other = 0; other < 4; other++) {
                Edges.due("count(" + other + ")", x.count(other), other == row ? 15 : 0);
            }
        }
    }

    private static void signBad() {
        Edges.range("row", 0, 3, x -> {}, (x, row) -> x.sign(row, 1), BAD);
        Edges.range("v", -1, 1, x -> {}, (x, v) -> x.sign(0, v), BAD);
        Edges.range("v behind signs", -1, 1, Edges::rich, (x, v) -> x.sign(1, v), BAD);
    }

    private static void signBehindFifteen() {
        for (int row = 0; row < 4; row++) {
            int full = row;
            RowsOfTwo x = new RowsOfTwo();
            Check.signs(x, row, FIFTEEN.substring(1));
            Edges.due("the fifteenth", x.sign(row, NONE), 15);
            for (int v = -1; v <= 1; v++) {
                int sign = v;
                Edges.due("the sixteenth, not seen behind it", x.sign(row, v), FULL);
                Edges.refused("sign(" + row + ", " + v + ")", y -> Check.signs(y, full, FIFTEEN),
                        y -> y.sign(full, sign), FULL);
            }
            Edges.due("another row", x.sign((row + 1) % 4, 1), 1);
            x.clear(row);
            Edges.due("behind clear", x.sign(row, 1), 1);
        }
    }

    private static void signBadAheadOfFull() {
        Edges.refused("v 2 behind fifteen", Edges::rich, x -> x.sign(2, 2), BAD);
        Edges.refused("v -2 behind fifteen", Edges::rich, x -> x.sign(2, -2), BAD);
    }

    // ---- promise 3

    private static void readUpToWhatMayNotBe() {
        int[] mayNot = {-2, 2, 127, -128};
        for (int type = 0; type < 3; type++) {
            for (int no : mayNot) {
                RowsOfTwo x = new RowsOfTwo();
                Edges.items(x, 0, type, 1, 0, -1, no, 1);
                Edges.due("1, 0, -1, " + no, x.read(0, 0), 3);
                Edges.due("count(0)", x.count(0), 3);
                Edges.due("at(0, 2)", x.at(0, 2), NONE);
                x.put(0, type, 0, no);
                Edges.due(no + " at first", x.read(0, 1), 0);
                Edges.due("count(1)", x.count(1), 0);
            }
        }
        RowsOfTwo y = new RowsOfTwo();
        Edges.items(y, 0, 2, 256, 1);
        Edges.due("an int whose lowest byte is 0", y.read(0, 0), 0);
        Edges.items(y, 0, 0, 256, 257, 255, 1 << 16);
        Edges.due("bytes that are 0, 1, -1, 0", y.read(0, 0), 4);
        Edges.due("at(0, 1)", y.at(0, 1), 1);
        Edges.due("at(0, 2)", y.at(0, 2), NONE);
    }

    private static void readAllItems() {
        RowsOfTwo x = new RowsOfTwo();
        x.sheet(0, 0, 0);
        Edges.due("no items", x.read(0, 0), 0);
        Edges.items(x, 0, 1, 1);
        Edges.due("one item", x.read(0, 0), 1);
        Edges.items(x, 3, 2, 0, 0, -1, 1, 1);
        Edges.due("five items", x.read(3, 3), 5);
        int[] want = {0, 0, -1, 1, 1};
        for (int i = 0; i < want.length; i++) {
            Edges.due("at(3, " + i + ")", x.at(3, i), want[i]);
            Edges.due("the SHEET's item " + i, x.get(3, 2, i), want[i]);
        }
        Edges.due("behind the last", x.at(3, 5), NOT);
    }

    private static void readUntilFull() {
        for (int had = 0; had <= 15; had++) {
            RowsOfTwo x = new RowsOfTwo();
            Check.signs(x, 0, FIFTEEN.substring(0, had));
            x.sheet(0, 0, 40);
            Edges.due("40 items behind " + had, x.read(0, 0), 15 - had);
            Edges.due("count(0)", x.count(0), 15);
            Edges.due("and again", x.read(0, 0), 0);
            Edges.due("sign", x.sign(0, 1), FULL);
            Check.signs(x, 1, FIFTEEN.substring(0, had));
            x.sheet(1, 0, 15 - had);
            Edges.due("as many as fit behind " + had, x.read(1, 1), 15 - had);
        }
    }

    private static void readTellsHowManyCame() {
        RowsOfTwo x = new RowsOfTwo();
        Edges.items(x, 0, 0, 1, 0, 1);
        for (int times = 1; times <= 5; times++) {
            Edges.due("read " + times, x.read(0, 0), 3);
            Edges.due("count(0)", x.count(0), 3 * times);
        }
        Edges.due("read 6", x.read(0, 0), 0);
    }

    private static void readBad() {
        Edges.range("s", 0, 3, Edges::rich, (x, s) -> x.read(s, 0), BAD);
        Edges.range("row", 0, 3, Edges::rich, (x, row) -> x.read(0, row), BAD);
    }

    private static void readLost() {
        Edges.refused("read(3, 0)", Edges::rich, x -> x.read(3, 0), NULL);
        Edges.refused("read(3, 2), a full row", Edges::rich, x -> x.read(3, 2), NULL);
        Edges.refused("read(0, 0) behind lose(0)", x -> {
            Edges.rich(x);
            x.lose(0);
        }, x -> x.read(0, 0), NULL);
    }

    private static void readBadAheadOfNull() {
        Edges.refused("read(3, 4)", Edges::rich, x -> x.read(3, 4), BAD);
        Edges.refused("read(3, -1)", Edges::rich, x -> x.read(3, -1), BAD);
    }

    // ---- promise 4

    private static void clearEmptyToFull() {
        for (int had = 0; had <= 15; had++) {
            RowsOfTwo x = Edges.after(Edges::rich);
            Check.signs(x, 3, "???????????????".substring(0, had));
            Edges.due("clear of " + had, x.clear(3), had);
            Edges.due("clear again", x.clear(3), 0);
            Edges.due("count(3)", x.count(3), 0);
            Edges.due("WHOLE again", x.count(7), 13);
            Edges.due("at(3, 0)", x.at(3, 0), NOT);
            Edges.due("row 2 stays", x.count(2), 15);
            Edges.due("fills(3, 0)", x.fills(3, 0), 1);
            Edges.due("a hit behind it", x.sign(3, 1), 1);
            Edges.due("one hit", x.shows(3, 0), 1);
        }
    }

    private static void clearBad() {
        Edges.range("row", 0, 3, Edges::rich, (x, row) -> x.clear(row), BAD);
    }

    // ---- promise 5

    private static void atFirstToLast() {
        for (int length = 1; length <= 15; length++) {
            RowsOfTwo x = new RowsOfTwo();
            Check.signs(x, 3, FIFTEEN.substring(0, length));
            for (int i = 0; i < length; i++) {
                Edges.due("at(3, " + i + ") of " + length, x.at(3, i), FIFTEEN.charAt(i) - '0');
            }
        }
    }

    private static void atBad() {
        Edges.range("row", 0, 3, Edges::rich, (x, row) -> x.at(row, 0), BAD);
        Edges.range("i", 0, Edges.MOST, Edges::rich, (x, i) -> x.at(0, i), BAD);
    }

    private static void atBehindTheLast() {
        for (int length = 0; length <= 15; length++) {
            String signs = FIFTEEN.substring(0, length);
            Edges.Start start = x -> Check.signs(x, 0, signs);
            int[] places = {length, length + 1, 15, 16, Edges.MOST};
            for (int i : places) {
                Edges.refused("at(0, " + i + ") of " + length, start, x -> x.at(0, i), NOT);
            }
        }
    }

    private static void atBadAheadOfNot() {
        Edges.refused("at(3, -1) of an empty row", Edges::rich, x -> x.at(3, -1), BAD);
        Edges.refused("at(4, 15)", Edges::rich, x -> x.at(4, 15), BAD);
        Edges.refused("at(-1, 15)", Edges::rich, x -> x.at(-1, 15), BAD);
    }

    private static void atNotSeen() {
        for (int place = 0; place < 15; place++) {
            String signs = "1".repeat(place) + "?" + "1".repeat(14 - place);
            RowsOfTwo x = Check.withRow(signs);
            for (int i = 0; i < 15; i++) {
                Edges.due("at(0, " + i + ") of " + signs, x.at(0, i), i == place ? NONE : 1);
            }
        }
    }

    // ---- promise 6

    private static void setOddsLeastToMost() {
        RowsOfTwo x = Check.withText("o=1");
        for (int m = 1; m <= 15; m++) {
            x.set(0, m);
            Edges.due("count(5)", x.count(5), m);
            Ratio want = Ratio.of(m, 16);
            Edges.fraction("share(1) by " + m, x.share(1, 0), x.share(1, 1), want.above(), want.below());
        }
    }

    private static void setPatternLeastToMost() {
        for (int told = 2; told <= 127; told++) {
            String signs = PlainChains.signsOf(told);
            RowsOfTwo x = Check.withRow(signs);
            x.set(1, told);
            Edges.due("count(6)", x.count(6), told);
            Edges.due("PATTERN " + told + " in " + signs, x.shows(0, 6), 1);
        }
    }

    private static void setTellsWhatItWas() {
        RowsOfTwo x = new RowsOfTwo();
        int[] odds = {1, 15, 15, 8};
        int was = 8;
        for (int m : odds) {
            Edges.due("set(0, " + m + ")", x.set(0, m), was);
            was = m;
        }
        int[] patterns = {2, 127, 127, 3};
        was = 3;
        for (int told : patterns) {
            Edges.due("set(1, " + told + ")", x.set(1, told), was);
            was = told;
        }
        Edges.due("a refused one is not kept", x.set(0, 16), BAD);
        Edges.due("set(0, 2)", x.set(0, 2), 8);
        Edges.due("a refused one is not kept", x.set(1, 128), BAD);
        Edges.due("set(1, 2)", x.set(1, 2), 3);
    }

    private static void setBad() {
        Edges.range("what", 0, 1, Edges::rich, (x, what) -> x.set(what, 8), BAD);
        Edges.range("m", 1, 15, Edges::rich, (x, m) -> x.set(0, m), BAD);
        Edges.range("THE PATTERN", 2, 127, Edges::rich, (x, told) -> x.set(1, told), BAD);
    }

    // ---- promise 7

    private static void showsEachNumber() {
        RowsOfTwo x = Edges.after(Edges::rich);
        // 101100111000101 with THE PATTERN 10.
        int[] want = {8, 9, 3, 3, 3, 0, 4};
        for (int which = 0; which < 7; which++) {
            Edges.due("shows(2, " + which + ")", x.shows(2, which), want[which]);
        }
    }

    private static void showsBad() {
        Edges.range("row", 0, 3, Edges::rich, (x, row) -> x.shows(row, 0), BAD);
        Edges.range("which", 0, 6, Edges::rich, (x, which) -> x.shows(0, which), BAD);
    }

    private static void showsWithOneSignNotSeen() {
        for (int length = 1; length <= 15; length += 7) {
            for (int place = 0; place < length; place++) {
                String signs = "1".repeat(place) + "?" + "1".repeat(length - 1 - place);
                for (int which = 0; which < 7; which++) {
                    Edges.due("shows(0, " + which + ") of " + signs, Check.withRow(signs).shows(0, which), NOT);
                }
            }
        }
        Edges.refused("shows(1, 0)", Edges::rich, x -> x.shows(1, 0), NOT);
    }

    private static void showsBadAheadOfNot() {
        Edges.refused("shows(1, 7)", Edges::rich, x -> x.shows(1, 7), BAD);
        Edges.refused("shows(1, -1)", Edges::rich, x -> x.shows(1, -1), BAD);
    }
}
