/** Edges of promises 24 to 26: agree, twice, next. */
final class TogetherEdges {
    private static final int BAD = RowsOfTwo.BAD, NOT = RowsOfTwo.NOT;
    private static final int MILLION = 1000000;

    private TogetherEdges() {}

    static void run() {
        Edges.test(24, "AGREE (what = 0)", TogetherEdges::agreeNoneToAll);
        Edges.test(24, "CHANCE (1).", TogetherEdges::chanceLeastToMost);
        Edges.test(24, "BAD:", TogetherEdges::agreeBad);
        Edges.test(24, "BAD: also a ROW with itself;", TogetherEdges::agreeWithItself);
        Edges.test(24, "NOT:", TogetherEdges::agreeWithOneSignNotSeen);
        Edges.test(24, "NOT: also of unlike lengths.", TogetherEdges::agreeOfUnlikeLengths);
        Edges.test(24, "BAD: also a ROW with itself; NOT", TogetherEdges::agreeBadAheadOfNot);

        Edges.test(25, "TWICE.", TogetherEdges::twiceNoneToFifteen);
        Edges.test(25, "BAD;", TogetherEdges::twiceBad);
        Edges.test(25, "NOT.", TogetherEdges::twiceWithOneSignNotSeen);
        Edges.test(25, "BAD; NOT.", TogetherEdges::twiceBadAheadOfNot);

        Edges.test(26, "NEXT: 0 hits, 1 all, 2 above, 3 below.", TogetherEdges::nextNoneToAll);
        Edges.test(26, "BAD;", TogetherEdges::nextBad);
        Edges.test(26, "NOT: the ROW has not k signs", TogetherEdges::nextWithoutSoManySigns);
        Edges.test(26, "its last k were not all seen.", TogetherEdges::nextWithOneOfTheLastNotSeen);
        Edges.test(26, "BAD; NOT", TogetherEdges::nextBadAheadOfNot);
    }

    private static String unseenAt(int place, int length) {
        return "1".repeat(place) + "?" + "1".repeat(length - 1 - place);
    }

    // ---- promise 24

    private static void agree(String one, String two, int places, int chance) {
        RowsOfTwo x = new RowsOfTwo();
        Check.signs(x, 3, one);
        Check.signs(x, 0, two);
        Edges.due(one + " and " + two, x.agree(3, 0, 0), places);
        Edges.due("CHANCE of " + one + " and " + two, x.agree(3, 0, 1), chance);
    }

    private static void agreeNoneToAll() {
        for (int length = 0; length <= 15; length++) {
            agree("1".repeat(length), "1".repeat(length), length, MILLION);
            agree("0".repeat(length), "0".repeat(length), length, MILLION);
            agree("0".repeat(length), "1".repeat(length), 0, MILLION);
        }
        agree("100000000000000", "000000000000000", 14, MILLION);
        agree("000000000000001", "000000000000000", 14, MILLION);
    }

    private static void chanceLeastToMost() {
        agree("101010101010101", "101010101010101", 15, 155);
        agree("010101010101010", "101010101010101", 0, MILLION);
        agree("01", "01", 2, 500000);
        agree("01", "10", 0, MILLION);
        agree("001", "001", 3, 333333);
        agree("011", "001", 2, 666666);
        agree("1100", "0001", 1, MILLION);
        agree("1000", "0011", 1, MILLION);
        agree("000111", "000001", 4, 500000);
        agree("000001", "000111", 4, 500000);
        agree("0000", "0001", 3, MILLION);
        agree("0001", "0000", 3, MILLION);
        agree("0011", "0011", 4, 166666);
        agree("0001", "0001", 4, 250000);
    }

    private static void agreeBad() {
        Edges.range("row", 0, 3, Edges::whole, (x, row) -> x.agree(row, 1, 0), BAD);
        Edges.range("other", 0, 3, Edges::whole, (x, other) -> x.agree(1, other, 0), BAD);
        Edges.range("what", 0, 1, Edges::whole, (x, what) -> x.agree(0, 1, what), BAD);
    }

    private static void agreeWithItself() {
        for (int row = 0; row < 4; row++) {
            int same = row;
            Edges.refused("agree of " + row, Edges::whole, x -> x.agree(same, same, 0), BAD);
            Edges.refused("CHANCE of " + row, Edges::whole, x -> x.agree(same, same, 1), BAD);
            Edges.refused("agree of an empty row", x -> {}, x -> x.agree(same, same, 0), BAD);
            for (int other = 0; other < 4; other++) {
                if (other != row) {
                    int answer = Edges.after(Edges::whole).agree(row, other, 0);
                    Edges.differs("agree of " + row + " and " + other, answer, BAD);
                }
            }
        }
    }

    private static void agreeWithOneSignNotSeen() {
        for (int place = 0; place < 15; place++) {
            RowsOfTwo x = Check.withRow("1".repeat(15));
            Check.signs(x, 1, unseenAt(place, 15));
            for (int what = 0; what <= 1; what++) {
                Edges.due("the second not seen at " + place, x.agree(0, 1, what), NOT);
                Edges.due("the first not seen at " + place, x.agree(1, 0, what), NOT);
            }
        }
        Edges.Start start = x -> {
            Check.signs(x, 0, "1?");
            Check.signs(x, 1, "1?");
        };
        Edges.refused("neither WHOLE", start, x -> x.agree(0, 1, 0), NOT);
    }

    private static void agreeOfUnlikeLengths() {
        for (int length = 0; length < 15; length++) {
            String signs = "1".repeat(length);
            Edges.Start start = x -> {
                Check.signs(x, 0, signs);
                Check.signs(x, 1, signs + "1");
            };
            for (int part = 0; part <= 1; part++) {
                int what = part;
                Edges.refused("one sign longer than " + length, start, x -> x.agree(0, 1, what), NOT);
                Edges.refused("one sign shorter", start, x -> x.agree(1, 0, what), NOT);
            }
        }
    }

    private static void agreeBadAheadOfNot() {
        Edges.refused("agree(1, 1, 0), not WHOLE", Edges::rich, x -> x.agree(1, 1, 0), BAD);
        Edges.refused("agree(0, 1, 2), not WHOLE", Edges::rich, x -> x.agree(0, 1, 2), BAD);
        Edges.refused("agree(0, 2, -1), unlike lengths", Edges::rich, x -> x.agree(0, 2, -1), BAD);
        Edges.refused("agree(1, 4, 0), not WHOLE", Edges::rich, x -> x.agree(1, 4, 0), BAD);
        Edges.refused("agree(-1, 1, 0), not WHOLE", Edges::rich, x -> x.agree(-1, 1, 0), BAD);
        Edges.refused("agree(4, 4, 0)", Edges::rich, x -> x.agree(4, 4, 0), BAD);
    }

    // ---- promise 25

    private static void twice(String signs, int want) {
        RowsOfTwo x = new RowsOfTwo();
        Check.signs(x, 3, signs);
        Edges.due("twice of '" + signs + "'", x.twice(3), want);
    }

    private static void twiceNoneToFifteen() {
        twice("", 0);
        for (int length = 1; length <= 15; length++) {
            twice("1".repeat(length), length % 2 == 0 ? 1 : 0);
            twice("0".repeat(length), length % 2 == 0 ? 1 : 0);
        }
        String half = "1101000";
        twice(half + "1101000", 1);
        twice(half + "0010111", 2);
        twice(half + "0001011", 3);
        twice(half + "1110100", 0);
        for (int place = 0; place < 7; place++) {
            twice(half + flipped("1101000", place), 0);
            twice(half + flipped("0010111", place), 0);
            twice(half + flipped("0001011", place), 0);
        }
    }

    private static String flipped(String signs, int place) {
        char other = signs.charAt(place) == '1' ? '0' : '1';
        return signs.substring(0, place) + other + signs.substring(place + 1);
    }

    private static void twiceBad() {
        Edges.range("row", 0, 3, Edges::rich, (x, row) -> x.twice(row), BAD);
    }

    private static void twiceWithOneSignNotSeen() {
        for (int place = 0; place < 14; place++) {
            Edges.due("not seen at " + place + " of 14", Check.withRow(unseenAt(place, 14)).twice(0), NOT);
            Edges.due("not seen at " + place + " of 15", Check.withRow(unseenAt(place, 15)).twice(0), NOT);
        }
        Edges.refused("twice(1), an odd number of signs", Edges::rich, x -> x.twice(1), NOT);
        Edges.refused("halves not seen alike", x -> Check.signs(x, 0, "1?1?"), x -> x.twice(0), NOT);
    }

    private static void twiceBadAheadOfNot() {
        Edges.refused("twice(4)", Edges::rich, x -> x.twice(4), BAD);
        Edges.refused("twice(-1)", Edges::rich, x -> x.twice(-1), BAD);
    }

    // ---- promise 26

    private static void next(String signs, int k, int... want) {
        RowsOfTwo x = new RowsOfTwo();
        Check.signs(x, 3, signs);
        for (int what = 0; what < 4; what++) {
            Edges.due("next(3, " + k + ", " + what + ") of " + signs, x.next(3, k, what), want[what]);
        }
    }

    private static void nextNoneToAll() {
        next("", 0, 0, 0, 1, 2);
        for (int k = 0; k <= 4; k++) {
            int all = 15 - k;
            next("1".repeat(15), k, all, all, all + 1, all + 2);
            next("0".repeat(15), k, 0, all, 1, all + 2);
            next("0".repeat(k + 1), k, 0, 1, 1, 3);
            next("1".repeat(k + 1), k, 1, 1, 2, 3);
        }
        next("10", 0, 1, 2, 1, 2);
        next("1110", 0, 3, 4, 2, 3);
        next("?????????????1?", 0, 1, 1, 2, 3);
        next("11?11", 2, 0, 0, 1, 2);
        next("11011", 2, 0, 1, 1, 3);
    }

    private static void nextBad() {
        Edges.range("row", 0, 3, Edges::rich, (x, row) -> x.next(row, 0, 0), BAD);
        Edges.range("k", 0, 4, Edges::rich, (x, k) -> x.next(2, k, 0), BAD);
        Edges.range("what", 0, 3, Edges::rich, (x, what) -> x.next(2, 1, what), BAD);
    }

    private static void nextWithoutSoManySigns() {
        for (int many = 1; many <= 4; many++) {
            int k = many;
            for (int length = 0; length < k; length++) {
                String signs = "1".repeat(length);
                for (int part = 0; part < 4; part++) {
                    int what = part;
                    Edges.refused("next by " + k + " of " + length, x -> Check.signs(x, 0, signs),
                            x -> x.next(0, k, what), NOT);
                }
            }
            next("1".repeat(k), k, 0, 0, 1, 2);
        }
        next("", 0, 0, 0, 1, 2);
    }

    private static void nextWithOneOfTheLastNotSeen() {
        for (int many = 0; many <= 4; many++) {
            int k = many;
            for (int behind = 0; behind < k; behind++) {
                String signs = unseenAt(14 - behind, 15);
                Edges.Start start = x -> Check.signs(x, 0, signs);
                Edges.refused("next by " + k + " of " + signs, start, x -> x.next(0, k, 0), NOT);
            }
            // Not seen right ahead of the last k: neither it nor the last k signs are behind like ones.
            int all = 14 - 2 * k;
            next(unseenAt(14 - k, 15), k, all, all, all + 1, all + 2);
        }
    }

    private static void nextBadAheadOfNot() {
        Edges.refused("next(3, 5, 0), not five signs", Edges::rich, x -> x.next(3, 5, 0), BAD);
        Edges.refused("next(3, 1, 4), not one sign", Edges::rich, x -> x.next(3, 1, 4), BAD);
        Edges.refused("next(3, 1, -1), not one sign", Edges::rich, x -> x.next(3, 1, -1), BAD);
        Edges.refused("next(4, 1, 0)", Edges::rich, x -> x.next(4, 1, 0), BAD);
    }
}
