/** Promises 22 and 23: waits and first, against chains of signs solved one equation after the other. */
public final class PatternsTest {
    public static void main(String[] args) {
        knownWaits();
        allWaits();
        knownFirsts();
        allFirsts();
        refusals();
        Check.end();
    }

    private static void knownWaits() {
        RowsOfTwo x = new RowsOfTwo();
        wait(x, "1", 2, 1);
        wait(x, "11", 6, 1);
        wait(x, "10", 4, 1);
        wait(x, "111111", 126, 1);
        wait(x, "101010", 84, 1);
        wait(x, "100000", 64, 1);
        x.set(0, 12);
        wait(x, "1", 4, 3);
        wait(x, "0", 4, 1);
        wait(x, "01", 16, 3);
        wait(x, "00", 20, 1);
    }

    private static void wait(RowsOfTwo x, String signs, long above, long below) {
        x.set(1, Integer.parseInt("1" + signs, 2));
        Check.fraction("waits for " + signs, x.waits(0), x.waits(1), above, below);
    }

    private static void allWaits() {
        for (int odds = 1; odds <= 15; odds++) {
            for (int told = 2; told <= 127; told++) {
                RowsOfTwo x = new RowsOfTwo();
                x.set(0, odds);
                x.set(1, told);
                Ratio want = PlainChains.wait(PlainChains.signsOf(told), odds);
                Check.fraction("waits for " + told + " by " + odds, x.waits(0), x.waits(1), want.above(), want.below());
            }
        }
    }

    private static void knownFirsts() {
        RowsOfTwo x = new RowsOfTwo();
        first(x, "100", "000", 7, 8);
        first(x, "011", "111", 7, 8);
        first(x, "001", "100", 1, 4);
        first(x, "1", "00", 3, 4);
        first(x, "00", "1", 1, 4);
        first(x, "0", "1", 1, 2);
        x.set(0, 12);
        first(x, "0", "1", 1, 4);
        first(x, "11", "0", 9, 16);
    }

    private static void first(RowsOfTwo x, String a, String b, long above, long below) {
        int toldA = Integer.parseInt("1" + a, 2);
        int toldB = Integer.parseInt("1" + b, 2);
        Check.fraction(a + " ahead of " + b, x.first(toldA, toldB, 0), x.first(toldA, toldB, 1), above, below);
    }

    private static void allFirsts() {
        for (int odds = 1; odds <= 15; odds += 2) {
            for (int a = 2; a <= 31; a++) {
                RowsOfTwo x = new RowsOfTwo();
                x.set(0, odds);
                for (int b = 2; b <= 31; b++) {
                    firstAsSolved(x, a, b, odds);
                }
            }
        }
    }

    private static void firstAsSolved(RowsOfTwo x, int a, int b, int odds) {
        String call = "first " + a + " " + b + " by " + odds;
        String signsA = PlainChains.signsOf(a);
        String signsB = PlainChains.signsOf(b);
        if (signsA.contains(signsB) || signsB.contains(signsA)) {
            Check.due(call, x.first(a, b, 0), Check.NOT_LONG);
            Check.due(call, x.first(a, b, 1), Check.NOT_LONG);
            return;
        }
        Ratio want = PlainChains.first(signsA, signsB, odds);
        Check.fraction(call, x.first(a, b, 0), x.first(a, b, 1), want.above(), want.below());
    }

    private static void refusals() {
        RowsOfTwo x = new RowsOfTwo();
        Check.due("waits 2", x.waits(2), Check.BAD_LONG);
        Check.due("waits -1", x.waits(-1), Check.BAD_LONG);
        int[] no = {1, 0, -1, 32, Integer.MIN_VALUE, Integer.MAX_VALUE};
        for (int told : no) {
            Check.due("first a " + told, x.first(told, 2, 0), Check.BAD_LONG);
            Check.due("first b " + told, x.first(2, told, 0), Check.BAD_LONG);
        }
        Check.due("first what 2", x.first(2, 3, 2), Check.BAD_LONG);
        Check.due("first what -1", x.first(2, 3, -1), Check.BAD_LONG);
        Check.due("BAD ahead of NOT", x.first(3, 3, 2), Check.BAD_LONG);
    }
}
