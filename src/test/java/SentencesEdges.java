/** Edges of promises 8 to 17: type, wipe, fault, holds, shown, nth, share, fills, filled, sure. */
final class SentencesEdges {
    private static final int NONE = RowsOfTwo.NONE, BAD = RowsOfTwo.BAD, NOT = RowsOfTwo.NOT, FULL = RowsOfTwo.FULL;
    private static final long BAD_LONG = Check.BAD_LONG, NOT_LONG = Check.NOT_LONG;
    private static final String FIFTY_NINE = "o<9+".repeat(14) + "o<9";
    private static final String UNSEEN = "???????????????";
    private static final long ALL = 1L << 60;

    private SentencesEdges() {}

    static void run() {
        Edges.test(8, "A byte (0 to 255) comes behind SENTENCES: how many.", SentencesEdges::typeUpToSixty);
        Edges.test(8, "A byte (0 to 255)", SentencesEdges::typeLeastAndMost);
        Edges.test(8, "BAD;", SentencesEdges::typeBad);
        Edges.test(8, "FULL.", SentencesEdges::typeBehindSixty);
        Edges.test(8, "BAD; FULL.", SentencesEdges::typeBadAheadOfFull);

        Edges.test(9, "SENTENCES are empty: how many bytes they had.", SentencesEdges::wipeEmptyToFull);
        Edges.test(9, "SENTENCES are empty", SentencesEdges::wipeOfAFault);

        Edges.test(10, "The FAULT;", SentencesEdges::faultFirstToLast);
        Edges.test(10, "NONE.", SentencesEdges::faultNone);

        Edges.test(11, "Whether a ROW HOLDS: 1, 0.", SentencesEdges::holdsRoundTheLimit);
        Edges.test(11, "BAD;", SentencesEdges::holdsBad);
        Edges.test(11, "NOT:", SentencesEdges::holdsWithOneSignNotSeen);
        Edges.test(11, "NOT: also a FAULT.", SentencesEdges::holdsWithFault);
        Edges.test(11, "BAD; NOT", SentencesEdges::holdsBadAheadOfNot);

        Edges.test(12, "How many rows of n signs (0 to 15) are SHOWN", SentencesEdges::shownOfNoneToFifteen);
        Edges.test(12, "with k hits (0 to 15; NONE: whatever)", SentencesEdges::shownWithNoneToFifteen);
        Edges.test(12, "BAD;", SentencesEdges::shownBad);
        Edges.test(12, "NOT.", SentencesEdges::shownWithFault);
        Edges.test(12, "BAD; NOT.", SentencesEdges::shownBadAheadOfNot);

        Edges.test(13, "as a number (a sign 1 put ahead of its signs, read as twos)", SentencesEdges::nthFirstToLast);
        Edges.test(13, "NONE beyond.", SentencesEdges::nthBeyond);
        Edges.test(13, "BAD:", SentencesEdges::nthBad);
        Edges.test(13, "BAD: also i below 0;", SentencesEdges::nthBelowZero);
        Edges.test(13, "NOT.", SentencesEdges::nthWithFault);
        Edges.test(13, "BAD: also i below 0; NOT.", SentencesEdges::nthBadAheadOfNot);

        Edges.test(14, "By what share a row of n signs is SHOWN: above, below.", SentencesEdges::shareOfNoneToFifteen);
        Edges.test(14, "above, below.", SentencesEdges::shareByTheLeastOdds);
        Edges.test(14, "BAD;", SentencesEdges::shareBad);
        Edges.test(14, "NOT. (As the least long.)", SentencesEdges::shareWithFault);
        Edges.test(14, "BAD; NOT. (As the least long.)", SentencesEdges::shareBadAheadOfNot);

        Edges.test(15, "How many FILLS (what = 0)", SentencesEdges::fillsOfNoneToFifteen);
        Edges.test(15, "that HOLD (1).", SentencesEdges::fillsThatHold);
        Edges.test(15, "BAD;", SentencesEdges::fillsBad);
        Edges.test(15, "NOT (1 alone: a FAULT).", SentencesEdges::fillsWithFault);
        Edges.test(15, "BAD; NOT", SentencesEdges::fillsBadAheadOfNot);

        Edges.test(16, "By what share they HOLD: above, below.", SentencesEdges::filledNoneToAll);
        Edges.test(16, "above, below.", SentencesEdges::filledByTheLeastOdds);
        Edges.test(16, "BAD;", SentencesEdges::filledBad);
        Edges.test(16, "NOT. (As the least long.)", SentencesEdges::filledWithFault);
        Edges.test(16, "BAD; NOT. (As the least long.)", SentencesEdges::filledBadAheadOfNot);

        Edges.test(17, "SURE of sign i.", SentencesEdges::sureFirstToLast);
        Edges.test(17, "BAD;", SentencesEdges::sureBad);
        Edges.test(17, "NOT: a FAULT", SentencesEdges::sureWithFault);
        Edges.test(17, "no FILL HOLDS", SentencesEdges::sureWhereNoneHolds);
        Edges.test(17, "it is not so long", SentencesEdges::sureBehindTheLast);
        Edges.test(17, "BAD; NOT", SentencesEdges::sureBadAheadOfNot);
    }

    private static String withHits(int hits, int length) {
        return "1".repeat(hits) + "0".repeat(length - hits);
    }

    // ---- promise 8

    private static void typeUpToSixty() {
        RowsOfTwo x = new RowsOfTwo();
        for (int i = 0; i < 59; i++) {
            Edges.due("byte " + i, x.type(FIFTY_NINE.charAt(i)), i + 1);
        }
        Edges.due("no FAULT in 59", x.fault(), NONE);
        Edges.due("shown(15, NONE) of o<9", x.shown(15, NONE), 22819);
        Edges.due("the sixtieth byte", x.type('0'), 60);
        Edges.due("no FAULT in 60", x.fault(), NONE);
        Edges.due("count(4)", x.count(4), 60);
        Check.text(x, "o<9+".repeat(14) + "o<1");
        Edges.due("the fifteenth TEST counts", x.shown(15, NONE), 1);
        Edges.due("the sixtieth byte", x.type('0'), 60);
        Edges.due("it counts: o<9 and o<10", x.shown(15, NONE), 22819);
    }

    private static void typeLeastAndMost() {
        int[] bytes = {0, 1, 127, 128, 254, 255};
        for (int b : bytes) {
            RowsOfTwo x = new RowsOfTwo();
            Edges.due("type(" + b + ")", x.type(b), 1);
            Edges.due("count(4)", x.count(4), 1);
            Edges.due("fault()", x.fault(), 0);
        }
    }

    private static void typeBad() {
        Edges.range("b", 0, 255, x -> {}, (x, b) -> x.type(b), BAD);
        Edges.range("b behind bytes", 0, 255, Edges::rich, (x, b) -> x.type(b), BAD);
        Edges.refused("o and 256", x -> {}, x -> x.type('o' + 256), BAD);
    }

    private static void typeBehindSixty() {
        Edges.Start sixty = x -> Check.text(x, FIFTY_NINE + "9");
        int[] bytes = {'o', '1', '+', '|', 0, 255};
        for (int b : bytes) {
            Edges.refused("type(" + b + ")", sixty, x -> x.type(b), FULL);
        }
        Edges.refused("behind a FAULT", x -> Check.text(x, "x".repeat(60)), x -> x.type('o'), FULL);
        RowsOfTwo y = Edges.after(sixty);
        y.wipe();
        Edges.due("behind wipe", y.type('o'), 1);
    }

    private static void typeBadAheadOfFull() {
        Edges.Start sixty = x -> Check.text(x, FIFTY_NINE + "9");
        Edges.refused("type(256) behind 60", sixty, x -> x.type(256), BAD);
        Edges.refused("type(-1) behind 60", sixty, x -> x.type(-1), BAD);
    }

    // ---- promise 9

    private static void wipeEmptyToFull() {
        for (int had = 0; had <= 60; had++) {
            RowsOfTwo x = Edges.after(Edges::rich);
            Check.text(x, (FIFTY_NINE + "9").substring(0, had));
            Edges.due("wipe of " + had, x.wipe(), had);
            Edges.due("wipe again", x.wipe(), 0);
            Edges.due("count(4)", x.count(4), 0);
            Edges.due("fault()", x.fault(), 0);
            Edges.due("shown(3, NONE)", x.shown(3, NONE), NOT);
            Edges.due("ODDS stay", x.count(5), 5);
            Edges.due("THE PATTERN stays", x.count(6), 6);
            Check.text(x, "o=0");
            Edges.due("nothing is left of them", x.shown(15, NONE), 1);
        }
        RowsOfTwo y = Check.withText("o=1|r=1");
        y.wipe();
        Check.text(y, "o=1+r=2");
        Edges.due("no | is left of them", y.shown(3, NONE), 2);
    }

    private static void wipeOfAFault() {
        for (int place = 0; place < 60; place++) {
            RowsOfTwo x = Check.withText((FIFTY_NINE + "9").substring(0, place) + "x");
            Edges.due("wipe of a FAULT at " + place, x.wipe(), place + 1);
            Edges.due("fault()", x.fault(), 0);
            x.type('o');
            Edges.due("fault() of o", x.fault(), 1);
            x.type('=');
            x.type('1');
            Edges.due("fault() of o=1", x.fault(), NONE);
            Edges.due("shown(15, NONE) of o=1", x.shown(15, NONE), 15);
        }
    }

    // ---- promise 10

    private static void faultFirstToLast() {
        String sixty = FIFTY_NINE + "9";
        for (int place = 0; place < 60; place++) {
            RowsOfTwo x = Check.withText(sixty.substring(0, place) + "x");
            Edges.due("fault() with x at " + place, x.fault(), place);
            for (char b : "o=1".toCharArray()) {
                x.type(b);
                Edges.due("and behind " + b, x.fault(), place);
            }
        }
        Edges.due("of an empty text", new RowsOfTwo().fault(), 0);
        Edges.due("that wants more behind 60", Check.withText(FIFTY_NINE + "+").fault(), 60);
    }

    private static void faultNone() {
        String sixty = FIFTY_NINE + "9";
        for (int length = 0; length <= 60; length++) {
            boolean goesOn = length == 60 || length % 4 == 3;
            RowsOfTwo x = Check.withText(sixty.substring(0, length));
            Edges.due("fault() of " + length + " bytes", x.fault(), goesOn ? NONE : length);
        }
    }

    // ---- promise 11

    private static void holdsRoundTheLimit() {
        String letters = "orlhbfp";
        // 0011101 with THE PATTERN 1.
        int[] numbers = {4, 4, 3, 3, 2, 2, 4};
        for (int which = 0; which < 7; which++) {
            for (int limit = numbers[which] - 1; limit <= numbers[which] + 1; limit++) {
                char letter = letters.charAt(which);
                holds(letter + "<" + limit, numbers[which] < limit);
                holds(letter + "=" + limit, numbers[which] == limit);
                holds(letter + ">" + limit, numbers[which] > limit);
                holds(letter + ">0" + limit, numbers[which] > limit);
            }
        }
        holds("o<99", true);
        holds("o>99", false);
        holds("o>0", true);
        holds("o<0", false);
        holds("o<00", false);
    }

    private static void holds(String text, boolean does) {
        RowsOfTwo x = Check.withText(text);
        Check.signs(x, 3, "0011101");
        Edges.due("0011101 " + text, x.holds(3), does ? 1 : 0);
    }

    private static void holdsBad() {
        Edges.range("row", 0, 3, Edges::rich, (x, row) -> x.holds(row), BAD);
    }

    private static void holdsWithOneSignNotSeen() {
        for (int place = 0; place < 15; place++) {
            RowsOfTwo x = Check.withText("o<99");
            Check.signs(x, 0, "1".repeat(place) + "?" + "1".repeat(14 - place));
            Edges.due("not seen at " + place, x.holds(0), NOT);
        }
        Edges.refused("holds(1)", Edges::rich, x -> x.holds(1), NOT);
        Edges.due("a ROW without signs is WHOLE", Check.withText("o=0").holds(0), 1);
    }

    private static void holdsWithFault() {
        String[] texts = {"", "o", "o<", "o<9+", "o<9|", "o<999", "o<9|r", "x"};
        for (String text : texts) {
            Edges.refused("holds(0) by '" + text + "'", x -> {
                Edges.rich(x);
                Check.text(x, text);
            }, x -> x.holds(0), NOT);
        }
        Edges.refused("holds(1), not WHOLE too", Edges::faulty, x -> x.holds(1), NOT);
    }

    private static void holdsBadAheadOfNot() {
        Edges.refused("holds(4)", Edges::faulty, x -> x.holds(4), BAD);
        Edges.refused("holds(-1)", Edges::faulty, x -> x.holds(-1), BAD);
    }

    // ---- promise 12

    private static void shownOfNoneToFifteen() {
        for (int n = 0; n <= 15; n++) {
            Edges.due("all of " + n, Check.withText("o<16").shown(n, NONE), 1 << n);
            Edges.due("all but one of " + n, Check.withText("o>0").shown(n, NONE), (1 << n) - 1);
            Edges.due("all hits of " + n, Check.withText("o=" + n).shown(n, NONE), 1);
            Edges.due("none of " + n, Check.withText("o>" + n).shown(n, NONE), 0);
        }
    }

    private static void shownWithNoneToFifteen() {
        RowsOfTwo x = Check.withText("o<99");
        for (int n = 0; n <= 15; n++) {
            int ways = 1;
            for (int k = 0; k <= 15; k++) {
                Edges.due("shown(" + n + ", " + k + ")", x.shown(n, k), ways);
                ways = ways * (n - k) / (k + 1);
            }
            Edges.due("shown(" + n + ", NONE)", x.shown(n, NONE), 1 << n);
        }
    }

    private static void shownBad() {
        Edges.range("n", 0, 15, Edges::rich, (x, n) -> x.shown(n, 0), BAD);
        Edges.range("k", -1, 15, Edges::rich, (x, k) -> x.shown(15, k), BAD);
        Edges.range("k of no signs", -1, 15, Edges::rich, (x, k) -> x.shown(0, k), BAD);
    }

    private static void shownWithFault() {
        Edges.refused("shown(0, NONE)", Edges::faulty, x -> x.shown(0, NONE), NOT);
        Edges.refused("shown(15, 15)", Edges::faulty, x -> x.shown(15, 15), NOT);
        Edges.refused("of an empty text", x -> {}, x -> x.shown(3, 0), NOT);
        Edges.refused("known before the FAULT came", x -> {
            Check.text(x, "o=1");
            x.shown(3, 1);
            x.type('|');
        }, x -> x.shown(3, 1), NOT);
    }

    private static void shownBadAheadOfNot() {
        Edges.refused("shown(16, 0)", Edges::faulty, x -> x.shown(16, 0), BAD);
        Edges.refused("shown(-1, 0)", Edges::faulty, x -> x.shown(-1, 0), BAD);
        Edges.refused("shown(0, 16)", Edges::faulty, x -> x.shown(0, 16), BAD);
        Edges.refused("shown(0, -2)", Edges::faulty, x -> x.shown(0, -2), BAD);
    }

    // ---- promise 13

    private static void nthFirstToLast() {
        RowsOfTwo x = Check.withText("o<99");
        Edges.due("the one row without signs", x.nth(0, 0), 1);
        for (int n = 0; n <= 15; n++) {
            Edges.due("the first of " + n, x.nth(n, 0), 1 << n);
            Edges.due("the last of " + n, x.nth(n, (1 << n) - 1), (2 << n) - 1);
        }
        RowsOfTwo y = Check.withText("o=1");
        for (int i = 0; i < 15; i++) {
            Edges.due("nth(15, " + i + ") with one hit", y.nth(15, i), (1 << 15) + (1 << i));
        }
    }

    private static void nthBeyond() {
        for (int n = 0; n <= 15; n++) {
            RowsOfTwo x = Check.withText("o<99");
            Edges.due("behind all of " + n, x.nth(n, 1 << n), NONE);
            Edges.due("far behind", x.nth(n, Edges.MOST), NONE);
            Edges.due("none at all", Check.withText("o>99").nth(n, 0), NONE);
            RowsOfTwo y = Check.withText("o=1");
            Edges.due("behind all with one hit", y.nth(n, n), NONE);
        }
    }

    private static void nthBad() {
        Edges.range("n", 0, 15, Edges::rich, (x, n) -> x.nth(n, 0), BAD);
    }

    private static void nthBelowZero() {
        Edges.range("i", 0, Edges.MOST, Edges::rich, (x, i) -> x.nth(4, i), BAD);
    }

    private static void nthWithFault() {
        Edges.refused("nth(4, 0)", Edges::faulty, x -> x.nth(4, 0), NOT);
        Edges.refused("nth(4, 99), beyond too", Edges::faulty, x -> x.nth(4, 99), NOT);
        Edges.refused("of an empty text", x -> {}, x -> x.nth(0, 0), NOT);
    }

    private static void nthBadAheadOfNot() {
        Edges.refused("nth(16, 0)", Edges::faulty, x -> x.nth(16, 0), BAD);
        Edges.refused("nth(-1, 0)", Edges::faulty, x -> x.nth(-1, 0), BAD);
        Edges.refused("nth(4, -1)", Edges::faulty, x -> x.nth(4, -1), BAD);
    }

    // ---- promise 14

    private static void share(String text, int odds, int n, long above, long below) {
        RowsOfTwo x = Check.withText(text);
        x.set(0, odds);
        Edges.fraction("share(" + n + ") of " + text + " by " + odds, x.share(n, 0), x.share(n, 1), above, below);
    }

    private static void shareOfNoneToFifteen() {
        for (int n = 0; n <= 15; n++) {
            share("o<99", 7, n, 1, 1);
            share("o>99", 7, n, 0, 1);
            share("o=" + n, 8, n, 1, 1L << n);
        }
        share("o>0", 7, 0, 0, 1);
        share("o>0", 7, 1, 7, 16);
    }

    private static void shareByTheLeastOdds() {
        share("o=15", 1, 15, 1, ALL);
        share("o<15", 1, 15, ALL - 1, ALL);
        share("o=0", 15, 15, 1, ALL);
        share("o>0", 15, 15, ALL - 1, ALL);
        share("o=15", 15, 15, 437893890380859375L, ALL);
    }

    private static void shareBad() {
        Edges.range("n", 0, 15, Edges::rich, (x, n) -> x.share(n, 0), BAD_LONG);
        Edges.range("what", 0, 1, Edges::rich, (x, what) -> x.share(4, what), BAD_LONG);
    }

    private static void shareWithFault() {
        Edges.refused("share(4, 0)", Edges::faulty, x -> x.share(4, 0), Long.MIN_VALUE + 3);
        Edges.refused("share(0, 1)", Edges::faulty, x -> x.share(0, 1), Long.MIN_VALUE + 3);
        Edges.refused("of an empty text", x -> {}, x -> x.share(0, 0), NOT_LONG);
    }

    private static void shareBadAheadOfNot() {
        Edges.refused("share(16, 0)", Edges::faulty, x -> x.share(16, 0), Long.MIN_VALUE + 2);
        Edges.refused("share(-1, 0)", Edges::faulty, x -> x.share(-1, 0), Long.MIN_VALUE + 2);
        Edges.refused("share(4, 2)", Edges::faulty, x -> x.share(4, 2), Long.MIN_VALUE + 2);
        Edges.refused("share(4, -1)", Edges::faulty, x -> x.share(4, -1), Long.MIN_VALUE + 2);
    }

    // ---- promise 15

    private static void fillsOfNoneToFifteen() {
        for (int unseen = 0; unseen <= 15; unseen++) {
            RowsOfTwo x = new RowsOfTwo();
            Check.signs(x, 3, UNSEEN.substring(0, unseen));
            Edges.due("fills(3, 0) of " + unseen, x.fills(3, 0), 1 << unseen);
            Check.signs(x, 2, UNSEEN.substring(0, unseen) + withHits(15 - unseen, 15 - unseen));
            Edges.due("fills(2, 0) with hits behind " + unseen, x.fills(2, 0), 1 << unseen);
        }
    }

    private static void fillsThatHold() {
        for (int unseen = 0; unseen <= 15; unseen++) {
            RowsOfTwo x = Check.withText("o<99");
            Check.signs(x, 0, UNSEEN.substring(0, unseen));
            Edges.due("all of " + unseen, x.fills(0, 1), 1 << unseen);
            Check.text(x, "o<" + unseen);
            Edges.due("all but one of " + unseen, x.fills(0, 1), (1 << unseen) - 1);
            Check.text(x, "o>" + unseen);
            Edges.due("none of " + unseen, x.fills(0, 1), 0);
        }
        RowsOfTwo y = Check.withText("o=2");
        Check.signs(y, 0, "110");
        Edges.due("of a WHOLE row that HOLDS", y.fills(0, 1), 1);
        Check.signs(y, 0, "111");
        Edges.due("of a WHOLE row that does not", y.fills(0, 1), 0);
    }

    private static void fillsBad() {
        Edges.range("row", 0, 3, Edges::rich, (x, row) -> x.fills(row, 0), BAD);
        Edges.range("row, that HOLD", 0, 3, Edges::rich, (x, row) -> x.fills(row, 1), BAD);
        Edges.range("what", 0, 1, Edges::rich, (x, what) -> x.fills(1, what), BAD);
    }

    private static void fillsWithFault() {
        Edges.refused("fills(1, 1)", Edges::faulty, x -> x.fills(1, 1), NOT);
        Edges.refused("fills(3, 1), without signs", Edges::faulty, x -> x.fills(3, 1), NOT);
        Edges.due("fills(1, 0)", Edges.after(Edges::faulty).fills(1, 0), 2);
        Edges.due("fills(3, 0), without signs", Edges.after(Edges::faulty).fills(3, 0), 1);
        Edges.due("fills(0, 0) of an empty text", new RowsOfTwo().fills(0, 0), 1);
    }

    private static void fillsBadAheadOfNot() {
        Edges.refused("fills(4, 1)", Edges::faulty, x -> x.fills(4, 1), BAD);
        Edges.refused("fills(-1, 1)", Edges::faulty, x -> x.fills(-1, 1), BAD);
        Edges.refused("fills(0, 2)", Edges::faulty, x -> x.fills(0, 2), BAD);
        Edges.refused("fills(0, -1)", Edges::faulty, x -> x.fills(0, -1), BAD);
    }

    // ---- promise 16

    private static void filled(String signs, String text, int odds, long above, long below) {
        RowsOfTwo x = Check.withText(text);
        x.set(0, odds);
        Check.signs(x, 3, signs);
        String call = "filled(3) of " + signs + ", " + text + " by " + odds;
        Edges.fraction(call, x.filled(3, 0), x.filled(3, 1), above, below);
    }

    private static void filledNoneToAll() {
        filled("", "o=0", 3, 1, 1);
        filled("", "o>0", 3, 0, 1);
        filled("101", "o=2", 3, 1, 1);
        filled("101", "o=1", 3, 0, 1);
        filled("1?1", "o<99", 3, 1, 1);
        filled("1?1", "o=3", 3, 3, 16);
        filled("1?1", "o=2", 3, 13, 16);
        filled("1?1", "o>3", 3, 0, 1);
        filled("?11111111111110", "o=14", 4, 1, 4);
        filled("01111111111111?", "o=14", 4, 1, 4);
    }

    private static void filledByTheLeastOdds() {
        filled(UNSEEN, "o=15", 1, 1, ALL);
        filled(UNSEEN, "o<15", 1, ALL - 1, ALL);
        filled(UNSEEN, "o=0", 15, 1, ALL);
        filled(UNSEEN, "o>0", 15, ALL - 1, ALL);
    }

    private static void filledBad() {
        Edges.range("row", 0, 3, Edges::rich, (x, row) -> x.filled(row, 0), BAD_LONG);
        Edges.range("what", 0, 1, Edges::rich, (x, what) -> x.filled(1, what), BAD_LONG);
    }

    private static void filledWithFault() {
        Edges.refused("filled(1, 0)", Edges::faulty, x -> x.filled(1, 0), Long.MIN_VALUE + 3);
        Edges.refused("filled(0, 1), a WHOLE row", Edges::faulty, x -> x.filled(0, 1), Long.MIN_VALUE + 3);
        Edges.refused("of an empty text", x -> {}, x -> x.filled(0, 0), NOT_LONG);
    }

    private static void filledBadAheadOfNot() {
        Edges.refused("filled(4, 0)", Edges::faulty, x -> x.filled(4, 0), Long.MIN_VALUE + 2);
        Edges.refused("filled(-1, 0)", Edges::faulty, x -> x.filled(-1, 0), Long.MIN_VALUE + 2);
        Edges.refused("filled(0, 2)", Edges::faulty, x -> x.filled(0, 2), Long.MIN_VALUE + 2);
        Edges.refused("filled(0, -1)", Edges::faulty, x -> x.filled(0, -1), Long.MIN_VALUE + 2);
    }

    // ---- promise 17

    private static void sureFirstToLast() {
        for (int place = 0; place < 15; place++) {
            // All but one place seen as misses: one hit can only stand there.
            String signs = "0".repeat(place) + "?" + "0".repeat(14 - place);
            RowsOfTwo x = Check.withRow(signs);
            sureOf(x, signs, "o=1", place, 1);
            sureOf(x, signs, "o=0", place, 0);
            sureOf(x, signs, "o<99", place, NONE);
        }
        RowsOfTwo y = Check.withText("o=15");
        Check.signs(y, 3, UNSEEN);
        for (int i = 0; i < 15; i++) {
            Edges.due("sure(3, " + i + "), all hits", y.sure(3, i), 1);
        }
    }

    private static void sureOf(RowsOfTwo x, String signs, String text, int place, int want) {
        Check.text(x, text);
        for (int i = 0; i < 15; i++) {
            Edges.due("sure(0, " + i + ") of " + signs + ", " + text, x.sure(0, i), i == place ? want : 0);
        }
    }

    private static void sureBad() {
        Edges.range("row", 0, 3, Edges::rich, (x, row) -> x.sure(row, 0), BAD);
        Edges.range("i", 0, Edges.MOST, Edges::rich, (x, i) -> x.sure(0, i), BAD);
    }

    private static void sureWithFault() {
        Edges.refused("sure(0, 0), a WHOLE row", Edges::faulty, x -> x.sure(0, 0), NOT);
        Edges.refused("sure(1, 1)", Edges::faulty, x -> x.sure(1, 1), NOT);
        Edges.refused("of an empty text", x -> Check.signs(x, 0, "1"), x -> x.sure(0, 0), NOT);
    }

    private static void sureWhereNoneHolds() {
        Edges.Start one = x -> {
            Check.signs(x, 0, "1?1");
            Check.signs(x, 1, "101");
            Check.text(x, "o=3");
        };
        Edges.Start none = x -> {
            one.on(x);
            Check.text(x, "o=4");
        };
        Edges.due("one FILL HOLDS", Edges.after(one).sure(0, 1), 1);
        for (int place = 0; place < 3; place++) {
            int i = place;
            Edges.refused("sure(0, " + i + ")", none, x -> x.sure(0, i), NOT);
            Edges.refused("sure(1, " + i + "), a WHOLE row", one, x -> x.sure(1, i), NOT);
        }
    }

    private static void sureBehindTheLast() {
        for (int length = 0; length <= 15; length++) {
            String signs = UNSEEN.substring(0, length);
            String allHits = "o=" + length;
            Edges.Start start = x -> {
                Check.signs(x, 0, signs);
                Check.text(x, allHits);
            };
            if (length > 0) {
                Edges.due("the last of " + length, Edges.after(start).sure(0, length - 1), 1);
            }
            int[] places = {length, length + 1, 15, 16, 31, 32, Edges.MOST};
            for (int i : places) {
                Edges.refused("sure(0, " + i + ") of " + length, start, x -> x.sure(0, i), NOT);
            }
        }
    }

    private static void sureBadAheadOfNot() {
        Edges.refused("sure(4, 0)", Edges::faulty, x -> x.sure(4, 0), BAD);
        Edges.refused("sure(-1, 0)", Edges::faulty, x -> x.sure(-1, 0), BAD);
        Edges.refused("sure(0, -1)", Edges::faulty, x -> x.sure(0, -1), BAD);
        Edges.refused("sure(3, -1), an empty row", Edges::rich, x -> x.sure(3, -1), BAD);
    }
}
