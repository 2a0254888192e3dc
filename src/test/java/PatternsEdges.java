/** Edges of promises 22 and 23: waits and first. */
final class PatternsEdges {
    private static final long BAD_LONG = Check.BAD_LONG;

    private PatternsEdges() {}

    static void run() {
        Edges.test(22, "WAIT: above, below.", PatternsEdges::waitsShortestToLongest);
        Edges.test(22, "above, below.", PatternsEdges::waitsByTheLeastAndTheMostOdds);
        Edges.test(22, "BAD. (As the least long.)", PatternsEdges::waitsBad);

        Edges.test(23, "FIRST: that a comes ahead of b: above, below.", PatternsEdges::firstShortestToLongest);
        Edges.test(23, "above, below.", PatternsEdges::firstByTheLeastAndTheMostOdds);
        Edges.test(23, "BAD;", PatternsEdges::firstBad);
        Edges.test(23, "NOT: one stands in the other. (As the least long.)", PatternsEdges::firstOneInTheOther);
        Edges.test(23, "BAD; NOT", PatternsEdges::firstBadAheadOfNot);
    }

    private static int told(String signs) {
        return Integer.parseInt("1" + signs, 2);
    }

    // ---- promise 22

    private static void waits(int odds, String signs, long above, long below) {
        RowsOfTwo x = new RowsOfTwo();
        x.set(0, odds);
        x.set(1, told(signs));
        Edges.fraction("waits for " + signs + " by " + odds, x.waits(0), x.waits(1), above, below);
    }

    private static void waitsShortestToLongest() {
        Edges.fraction("at first", new RowsOfTwo().waits(0), new RowsOfTwo().waits(1), 2, 1);
        for (int length = 1; length <= 6; length++) {
            waits(8, "1".repeat(length), (2L << length) - 2, 1);
            waits(8, "0".repeat(length), (2L << length) - 2, 1);
            waits(8, "1" + "0".repeat(length - 1), length == 1 ? 2 : 1L << length, 1);
        }
        waits(8, "101010", 84, 1);
        waits(8, "010101", 84, 1);
    }

    private static void waitsByTheLeastAndTheMostOdds() {
        waits(1, "1", 16, 1);
        waits(15, "1", 16, 15);
        waits(1, "0", 16, 15);
        waits(15, "0", 16, 1);
        waits(1, "111111", 17895696, 1);
        waits(15, "000000", 17895696, 1);
        for (int told = 2; told <= 127; told++) {
            String signs = PlainChains.signsOf(told);
            for (int odds = 1; odds <= 15; odds += 14) {
                Ratio want = PlainChains.wait(signs, odds);
                waits(odds, signs, want.above(), want.below());
            }
        }
    }

    private static void waitsBad() {
        Edges.range("what", 0, 1, Edges::rich, (x, what) -> x.waits(what), BAD_LONG);
        Edges.refused("waits(2)", Edges::faulty, x -> x.waits(2), Long.MIN_VALUE + 2);
    }

    // ---- promise 23

    private static void first(int odds, String a, String b, long above, long below) {
        RowsOfTwo x = new RowsOfTwo();
        x.set(0, odds);
        String call = a + " ahead of " + b + " by " + odds;
        Edges.fraction(call, x.first(told(a), told(b), 0), x.first(told(a), told(b), 1), above, below);
    }

    private static void firstShortestToLongest() {
        first(8, "0", "1", 1, 2);
        first(8, "1", "0", 1, 2);
        first(8, "0", "1111", 15, 16);
        first(8, "1111", "0", 1, 16);
        first(8, "0000", "1111", 1, 2);
        first(8, "1000", "0000", 15, 16);
        first(8, "0000", "1000", 1, 16);
    }

    private static void firstByTheLeastAndTheMostOdds() {
        first(1, "1", "0", 1, 16);
        first(15, "1", "0", 15, 16);
        first(1, "1111", "0", 1, 65536);
        first(15, "0000", "1", 1, 65536);
        first(1, "0", "1111", 65535, 65536);
        first(15, "1", "0000", 65535, 65536);
    }

    private static void firstBad() {
        Edges.range("a", 2, 31, Edges::rich, (x, a) -> x.first(a, 5, 0), BAD_LONG);
        Edges.range("b", 2, 31, Edges::rich, (x, b) -> x.first(5, b, 0), BAD_LONG);
        Edges.range("what", 0, 1, Edges::rich, (x, what) -> x.first(2, 3, what), BAD_LONG);
    }

    private static void oneInTheOther(String a, String b) {
        for (int what = 0; what <= 1; what++) {
            int part = what;
            Edges.refused(a + " in " + b, Edges::rich, x -> x.first(told(a), told(b), part), Long.MIN_VALUE + 3);
            Edges.refused(b + " has " + a, Edges::rich, x -> x.first(told(b), told(a), part), Long.MIN_VALUE + 3);
        }
    }

    private static void firstOneInTheOther() {
        for (int told = 2; told <= 31; told++) {
            oneInTheOther(PlainChains.signsOf(told), PlainChains.signsOf(told));
        }
        oneInTheOther("1", "10");
        oneInTheOther("1", "01");
        oneInTheOther("1", "0001");
        oneInTheOther("0", "1110");
        oneInTheOther("11", "1100");
        oneInTheOther("11", "0110");
        oneInTheOther("11", "0011");
        oneInTheOther("101", "1010");
        oneInTheOther("101", "0101");
        for (int a = 2; a <= 31; a++) {
            RowsOfTwo x = new RowsOfTwo();
            String one = PlainChains.signsOf(a);
            for (int b = 2; b <= 31; b++) {
                String two = PlainChains.signsOf(b);
                boolean stands = one.contains(two) || two.contains(one);
                boolean isNot = x.first(a, b, 0) == Check.NOT_LONG;
                Edges.due("whether " + one + " and " + two + " stand one in the other", isNot ? 1 : 0, stands ? 1 : 0);
            }
        }
    }

    private static void firstBadAheadOfNot() {
        Edges.refused("first(3, 3, 2)", Edges::rich, x -> x.first(3, 3, 2), Long.MIN_VALUE + 2);
        Edges.refused("first(3, 7, -1)", Edges::rich, x -> x.first(3, 7, -1), Long.MIN_VALUE + 2);
        Edges.refused("first(32, 32, 0)", Edges::rich, x -> x.first(32, 32, 0), Long.MIN_VALUE + 2);
        Edges.refused("first(1, 1, 0)", Edges::rich, x -> x.first(1, 1, 0), Long.MIN_VALUE + 2);
        Edges.refused("first(1, 2, 0), that stands in all", Edges::rich, x -> x.first(1, 2, 0), Long.MIN_VALUE + 2);
    }
}
