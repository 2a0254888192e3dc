/** Edges of promises 18 to 21: dealt, strangest, hot, already. */
final class DealtEdges {
    private static final int BAD = RowsOfTwo.BAD, NOT = RowsOfTwo.NOT;
    private static final long BAD_LONG = Check.BAD_LONG, NOT_LONG = Check.NOT_LONG;
    private static final int MILLION = 1000000;

    private DealtEdges() {}

    static void run() {
        Edges.test(18, "FEW (much = false), MUCH (true) of a number.", DealtEdges::dealtOfTheLeastAndTheMost);
        Edges.test(18, "FEW (much = false), MUCH (true)", DealtEdges::dealtWhereThereIsOneRow);
        Edges.test(18, "BAD;", DealtEdges::dealtBad);
        Edges.test(18, "NOT.", DealtEdges::dealtWithOneSignNotSeen);
        Edges.test(18, "BAD; NOT.", DealtEdges::dealtBadAheadOfNot);

        Edges.test(19, "STRANGEST.", DealtEdges::strangestOfOneToFifteen);
        Edges.test(19, "BAD;", DealtEdges::strangestBad);
        Edges.test(19, "NOT:", DealtEdges::strangestWithOneSignNotSeen);
        Edges.test(19, "NOT: also a ROW without signs.", DealtEdges::strangestWithoutSigns);
        Edges.test(19, "BAD; NOT", DealtEdges::strangestBadAheadOfNot);

        Edges.test(20, "HOT: above, below.", DealtEdges::hotNoneToAll);
        Edges.test(20, "BAD;", DealtEdges::hotBad);
        Edges.test(20, "NOT:", DealtEdges::hotWithOneSignNotSeen);
        Edges.test(20, "NOT: also if there are no such signs. (As the least long.)", DealtEdges::hotWithoutSuchSigns);
        Edges.test(20, "BAD; NOT", DealtEdges::hotBadAheadOfNot);

        Edges.test(21, "BY LOTS ALREADY: above, below.", DealtEdges::alreadyNoneToAll);
        Edges.test(21, "BAD;", DealtEdges::alreadyBad);
        Edges.test(21, "NOT:", DealtEdges::alreadyWithOneSignNotSeen);
        Edges.test(21, "NOT: also if no DEALT row has such signs. (As the least long.)",
                DealtEdges::alreadyWithoutSuchSigns);
        Edges.test(21, "BAD; NOT", DealtEdges::alreadyBadAheadOfNot);
    }

    /** Rows that are not WHOLE by one sign alone, at each place. */
    private static String unseenAt(int place, int length) {
        return "1".repeat(place) + "?" + "1".repeat(length - 1 - place);
    }

    // ---- promise 18

    private static void dealt(String signs, int which, int few, int much) {
        RowsOfTwo x = Check.withRow(signs);
        Edges.due("FEW " + which + " of " + signs, x.dealt(0, which, false), few);
        Edges.due("MUCH " + which + " of " + signs, x.dealt(0, which, true), much);
    }

    private static void dealtOfTheLeastAndTheMost() {
        dealt("101010101010101", 1, MILLION, 155);
        dealt("101010101010101", 4, 155, MILLION);
        dealt("111111110000000", 1, 310, MILLION);
        dealt("111111110000000", 2, MILLION, 1243);
        dealt("111111110000000", 3, MILLION, 1243);
        dealt("111111110000000", 4, MILLION, 1243);
        dealt("100000000000000", 5, 66666, MILLION);
        dealt("000000000000001", 5, MILLION, 66666);
        dealt("000000010000000", 5, 533333, 533333);
        dealt("001", 5, MILLION, 333333);
        dealt("010", 5, 666666, 666666);
        dealt("100", 5, 333333, MILLION);
        RowsOfTwo x = Check.withRow("01");
        x.set(1, 5);
        Edges.due("FEW 6 of 01, PATTERN 01", x.dealt(0, 6, false), MILLION);
        Edges.due("MUCH 6 of 01, PATTERN 01", x.dealt(0, 6, true), 500000);
    }

    private static void dealtWhereThereIsOneRow() {
        for (int length = 0; length <= 15; length++) {
            for (int which = 0; which < 7; which++) {
                dealt("0".repeat(length), which, MILLION, MILLION);
                dealt("1".repeat(length), which, MILLION, MILLION);
            }
        }
    }

    private static void dealtBad() {
        Edges.range("row", 0, 3, Edges::whole, (x, row) -> x.dealt(row, 1, false), BAD);
        Edges.range("row, MUCH", 0, 3, Edges::whole, (x, row) -> x.dealt(row, 1, true), BAD);
        Edges.range("which", 0, 6, Edges::rich, (x, which) -> x.dealt(0, which, false), BAD);
        Edges.range("which, MUCH", 0, 6, Edges::rich, (x, which) -> x.dealt(0, which, true), BAD);
    }

    private static void dealtWithOneSignNotSeen() {
        for (int place = 0; place < 15; place++) {
            RowsOfTwo x = Check.withRow(unseenAt(place, 15));
            for (int which = 0; which < 7; which++) {
                Edges.due("FEW " + which + ", not seen at " + place, x.dealt(0, which, false), NOT);
                Edges.due("MUCH " + which + ", not seen at " + place, x.dealt(0, which, true), NOT);
            }
        }
        Edges.refused("dealt(1, 0, true)", Edges::rich, x -> x.dealt(1, 0, true), NOT);
    }

    private static void dealtBadAheadOfNot() {
        Edges.refused("dealt(1, 7, true)", Edges::rich, x -> x.dealt(1, 7, true), BAD);
        Edges.refused("dealt(1, -1, false)", Edges::rich, x -> x.dealt(1, -1, false), BAD);
    }

    // ---- promise 19

    private static void strangest(String signs, int pattern, int want) {
        RowsOfTwo x = new RowsOfTwo();
        Check.signs(x, 3, signs);
        x.set(1, pattern);
        Edges.due("strangest of " + signs + ", PATTERN " + pattern, x.strangest(3), want);
    }

    private static void strangestOfOneToFifteen() {
        for (int length = 1; length <= 15; length++) {
            strangest("0".repeat(length), 3, 2);
            strangest("1".repeat(length), 3, 2);
        }
        strangest("10", 5, 12);
        strangest("01", 5, 13);
        strangest("111111110000000", 3, 2);
        strangest("101010101010101", 3, 3);
    }

    private static void strangestBad() {
        Edges.range("row", 0, 3, Edges::whole, (x, row) -> x.strangest(row), BAD);
    }

    private static void strangestWithOneSignNotSeen() {
        for (int place = 0; place < 15; place++) {
            Edges.due("not seen at " + place, Check.withRow(unseenAt(place, 15)).strangest(0), NOT);
        }
        Edges.due("one sign, not seen", Check.withRow("?").strangest(0), NOT);
        Edges.refused("strangest(1)", Edges::rich, x -> x.strangest(1), NOT);
    }

    private static void strangestWithoutSigns() {
        for (int row = 0; row < 4; row++) {
            int empty = row;
            Edges.refused("strangest(" + row + ")", x -> {}, x -> x.strangest(empty), NOT);
            RowsOfTwo y = new RowsOfTwo();
            y.sign(row, 0);
            Edges.due("with one sign", y.strangest(row), 2);
            y.clear(row);
            Edges.due("behind clear", y.strangest(row), NOT);
        }
    }

    private static void strangestBadAheadOfNot() {
        Edges.refused("strangest(4)", x -> {}, x -> x.strangest(4), BAD);
        Edges.refused("strangest(-1)", x -> {}, x -> x.strangest(-1), BAD);
    }

    // ---- promise 20

    private static void hot(String signs, int k, long above, long below) {
        RowsOfTwo x = new RowsOfTwo();
        Check.signs(x, 3, signs);
        Edges.fraction("hot " + k + " of " + signs, x.hot(3, k, 0), x.hot(3, k, 1), above, below);
    }

    private static void hotNoneToAll() {
        for (int k = 1; k <= 4; k++) {
            String hits = "1".repeat(k);
            hot(hits + "1", k, 1, 1);
            hot(hits + "0", k, 0, 1);
            hot("0".repeat(14 - k) + hits + "1", k, 1, 1);
            hot("0".repeat(14 - k) + hits + "0", k, 0, 1);
            hot("1".repeat(15), k, 1, 1);
            hot("1".repeat(14) + "0", k, 14 - k, 15 - k);
            hot(hits + "0" + hits + "1", k, 1, 2);
        }
        hot("1110", 2, 1, 2);
        hot("10111011011", 1, 4, 7);
        hot("11011", 2, 0, 1);
    }

    private static void hotBad() {
        Edges.range("row", 0, 3, Edges::whole, (x, row) -> x.hot(row, 1, 0), BAD_LONG);
        Edges.range("k", 1, 4, Edges::whole, (x, k) -> x.hot(0, k, 0), BAD_LONG);
        Edges.range("what", 0, 1, Edges::whole, (x, what) -> x.hot(0, 1, what), BAD_LONG);
    }

    private static void hotWithOneSignNotSeen() {
        for (int place = 0; place < 15; place++) {
            RowsOfTwo x = Check.withRow(unseenAt(place, 15));
            for (int k = 1; k <= 4; k++) {
                Edges.due("hot " + k + " not seen at " + place, x.hot(0, k, 0), Long.MIN_VALUE + 3);
                Edges.due("hot " + k + " not seen at " + place, x.hot(0, k, 1), Long.MIN_VALUE + 3);
            }
        }
        Edges.refused("hot(1, 1, 0)", Edges::rich, x -> x.hot(1, 1, 0), NOT_LONG);
    }

    private static void hotWithoutSuchSigns() {
        for (int hits = 1; hits <= 4; hits++) {
            int k = hits;
            String[] rows = {
                "", "0", "0".repeat(15), "1".repeat(k), "0".repeat(15 - k) + "1".repeat(k),
                "1".repeat(k - 1) + "0" + "1".repeat(k), "1".repeat(k - 1) + "0" + "1".repeat(k - 1) + "0"
            };
            for (String signs : rows) {
                Edges.Start start = x -> Check.signs(x, 0, signs);
                Edges.refused("hot " + k + " of " + signs, start, x -> x.hot(0, k, 0), Long.MIN_VALUE + 3);
                Edges.refused("hot " + k + " of " + signs, start, x -> x.hot(0, k, 1), Long.MIN_VALUE + 3);
            }
        }
    }

    private static void hotBadAheadOfNot() {
        Edges.refused("hot(1, 0, 0)", Edges::rich, x -> x.hot(1, 0, 0), Long.MIN_VALUE + 2);
        Edges.refused("hot(1, 5, 0)", Edges::rich, x -> x.hot(1, 5, 0), Long.MIN_VALUE + 2);
        Edges.refused("hot(3, 1, 2), without signs", Edges::rich, x -> x.hot(3, 1, 2), Long.MIN_VALUE + 2);
        Edges.refused("hot(3, 1, -1), without signs", Edges::rich, x -> x.hot(3, 1, -1), Long.MIN_VALUE + 2);
    }

    // ---- promise 21

    private static void already(String signs, int k, long above, long below) {
        RowsOfTwo x = new RowsOfTwo();
        Check.signs(x, 3, signs);
        Edges.fraction("already " + k + " of " + signs, x.already(3, k, 0), x.already(3, k, 1), above, below);
    }

    private static void alreadyNoneToAll() {
        for (int k = 1; k <= 4; k++) {
            already("0" + "1".repeat(k), k, 0, 1);
            already("0".repeat(15 - k) + "1".repeat(k), k, 0, 1);
            already("1".repeat(k + 1), k, 1, 1);
            already("1".repeat(15), k, 1, 1);
            // Of rows with one miss three have such signs: 1 by 1 (it is ahead), 0 by 1 (behind k hits), 1 by 2 (last).
            already("1".repeat(k) + "01", k, 1, 2);
        }
        already("1011", 2, 1, 2);
        already("10", 1, 0, 1);
    }

    private static void alreadyBad() {
        Edges.range("row", 0, 3, Edges::whole, (x, row) -> x.already(row, 1, 0), BAD_LONG);
        Edges.range("k", 1, 4, Edges::whole, (x, k) -> x.already(0, k, 0), BAD_LONG);
        Edges.range("what", 0, 1, Edges::whole, (x, what) -> x.already(0, 1, what), BAD_LONG);
    }

    private static void alreadyWithOneSignNotSeen() {
        for (int place = 0; place < 15; place++) {
            RowsOfTwo x = Check.withRow(unseenAt(place, 15));
            for (int k = 1; k <= 4; k++) {
                Edges.due("already " + k + " not seen at " + place, x.already(0, k, 0), Long.MIN_VALUE + 3);
                Edges.due("already " + k + " not seen at " + place, x.already(0, k, 1), Long.MIN_VALUE + 3);
            }
        }
        Edges.refused("already(1, 1, 0)", Edges::rich, x -> x.already(1, 1, 0), NOT_LONG);
    }

    private static void alreadyWithoutSuchSigns() {
        for (int hits = 1; hits <= 4; hits++) {
            int k = hits;
            String[] rows = {
                "", "0", "0".repeat(15), "1".repeat(k), "1".repeat(k - 1) + "0",
                "0".repeat(16 - k) + "1".repeat(k - 1), "1".repeat(k - 1)
            };
            for (String signs : rows) {
                Edges.Start start = x -> Check.signs(x, 0, signs);
                Edges.refused("already " + k + " of " + signs, start, x -> x.already(0, k, 0), Long.MIN_VALUE + 3);
                Edges.refused("already " + k + " of " + signs, start, x -> x.already(0, k, 1), Long.MIN_VALUE + 3);
            }
        }
    }

    private static void alreadyBadAheadOfNot() {
        Edges.refused("already(1, 0, 0)", Edges::rich, x -> x.already(1, 0, 0), Long.MIN_VALUE + 2);
        Edges.refused("already(1, 5, 0)", Edges::rich, x -> x.already(1, 5, 0), Long.MIN_VALUE + 2);
        Edges.refused("already(3, 1, 2), without signs", Edges::rich, x -> x.already(3, 1, 2), Long.MIN_VALUE + 2);
        Edges.refused("already(3, 1, -1), without signs", Edges::rich, x -> x.already(3, 1, -1), Long.MIN_VALUE + 2);
    }
}
