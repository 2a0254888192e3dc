import java.lang.reflect.Method;
import java.util.ArrayList;
import java.util.List;
import java.util.Random;

/** All promises: runs of calls by lots, on the class and on PlainModel, with like answers. */
public final class ModelTest {
    private static final int RUNS = 60;
    private static final int CALLS = 512;

    /** Each call with what its arguments are: see argument(). A call told twice comes twice as often. */
    private static final String[] CALLS_BY_LOT = {
        "sign row sign", "sign row sign", "sign row sign", "sign row seen", "sign row seen", "sign row seen",
        "sign row seen", "sign row seen", "read sheet row", "clear row", "at row place", "set two odds", "set one told",
        "shows row which", "type byte", "type byte", "wipe", "fault", "holds row", "shown n k", "nth n i",
        "share n two", "fills row two", "filled row two", "sure row place", "dealt row which much", "strangest row",
        "hot row k4 two", "already row k4 two", "waits two", "first told5 told5 two", "agree row row two", "twice row",
        "next row k5 four", "sheet sheet type size", "sheet sheet type size", "lose sheet", "put sheet type item v",
        "put sheet type item sign", "put sheet type item sign", "get sheet type item", "copy sheet item sheet item few",
        "write row sheet", "count nine", "digest"
    };

    private static final String[] TEXTS = {
        "o=3", "r>4+l<3", "h=2|b>3", "p>0", "f<3+o>2|p=0", "o>99", "o<99", "l=1|h=0+o=0", "b=0+f>1", "r=1|r=2|p=2", "o=2+",
        "o=1|x", "p=1+p<2|o=7+r=5", "h<4+l>1+b<5+r>2+f<9"
    };

    public static void main(String[] args) throws Exception {
        for (int seed = 1; seed <= RUNS; seed++) {
            run(new Random(seed), seed);
        }
        Check.end();
    }

    private static void run(Random lots, int seed) throws Exception {
        RowsOfTwo x = new RowsOfTwo();
        PlainModel model = new PlainModel();
        for (int c = 0; c < CALLS; c++) {
            if (lots.nextInt(60) == 0) {
                c += typeWhole(x, model, TEXTS[lots.nextInt(TEXTS.length)], seed);
                continue;
            }
            String[] words = CALLS_BY_LOT[lots.nextInt(CALLS_BY_LOT.length)].split(" ");
            Object[] arguments = new Object[words.length - 1];
            for (int i = 0; i < arguments.length; i++) {
                arguments[i] = argument(words[i + 1], lots);
            }
            compare(x, model, words[0], arguments, seed);
        }
        compare(x, model, "digest", new Object[0], seed);
    }

    private static int typeWhole(RowsOfTwo x, PlainModel model, String text, int seed) throws Exception {
        compare(x, model, "wipe", new Object[0], seed);
        for (char b : text.toCharArray()) {
            compare(x, model, "type", new Object[] {(int) b}, seed);
        }
        return text.length();
    }

    private static void compare(RowsOfTwo x, PlainModel model, String name, Object[] arguments, int seed)
            throws Exception {
        Number got = (Number) method(RowsOfTwo.class, name).invoke(x, arguments);
        Number want = (Number) method(PlainModel.class, name).invoke(model, arguments);
        Check.due("run " + seed + ": " + name + List.of(arguments), got.longValue(), want.longValue());
    }

    private static Method method(Class<?> of, String name) {
        List<Method> named = new ArrayList<>();
        for (Method each : of.getMethods()) {
            if (each.getName().equals(name) && each.getDeclaringClass() == of) {
                named.add(each);
            }
        }
        return named.get(0);
    }

    private static Object argument(String what, Random lots) {
        if (what.equals("much")) {
            return lots.nextBoolean();
        }
        if (lots.nextInt(40) == 0) {
            int[] far = {Integer.MIN_VALUE, Integer.MAX_VALUE, -1, -2, 4, 16, 41, 128, 256, 1 << 16};
            return far[lots.nextInt(far.length)];
        }
        switch (what) {
            case "row":
            case "sheet":
                return lots.nextInt(8) == 0 ? 3 : lots.nextInt(3);
            case "sign":
                return lots.nextInt(3) - 1;
            case "seen":
            case "two":
                return lots.nextInt(2);
            case "one":
                return 1;
            case "place":
                return lots.nextInt(16);
            case "odds":
                return 1 + lots.nextInt(15);
            case "told":
                return 2 + lots.nextInt(126);
            case "told5":
                return 2 + lots.nextInt(30);
            case "which":
                return lots.nextInt(7);
            case "byte":
                return (int) "orlhbfp<=>0123456789+|".charAt(lots.nextInt(22));
            case "n":
                return lots.nextInt(12) == 0 ? 15 : lots.nextInt(9);
            case "k":
                return lots.nextInt(10) - 1;
            case "k4":
                return 1 + lots.nextInt(4);
            case "k5":
                return lots.nextInt(5);
            case "four":
                return lots.nextInt(4);
            case "i":
                return lots.nextInt(60);
            case "type":
                return lots.nextInt(5) == 0 ? 2 : lots.nextInt(2);
            case "size":
                return lots.nextInt(6) == 0 ? 40 : lots.nextInt(10);
            case "item":
            case "few":
                return lots.nextInt(10);
            case "nine":
                return lots.nextInt(9);
            default:
                return lots.nextInt();
        }
    }
}
