import java.util.ArrayList;
import java.util.List;
import java.util.regex.Matcher;
import java.util.regex.Pattern;

/** The document told again in texts and lists, slowly, to hold the class against it. */
public final class PlainModel {
    private static final int NONE = -1, BAD = -2, NOT = -3, FULL = -4;
    private static final String NUMBERS = "orlhbfp";
    private static final Pattern GRAMMAR = Pattern.compile("[orlhbfp][<=>][0-9]{1,2}([+|][orlhbfp][<=>][0-9]{1,2})*");

    private final String[] rows = {"", "", "", ""};
    private final int[][] sheets = new int[4][];
    private final int[] types = new int[4];
    private String text = "";
    private int odds = 8;
    private String pattern = "1";
    private int finding = 0;

    public int sign(int row, int v) {
        if (!in(row, 0, 3) || !in(v, -1, 1)) return BAD;
        if (rows[row].length() == 15) return FULL;
        rows[row] += charOf(v);
        return rows[row].length();
    }

    public int read(int s, int row) {
        if (!in(s, 0, 3) || !in(row, 0, 3)) return BAD;
        if (sheets[s] == null) return finding(1);
        int before = rows[row].length();
        for (int item : sheets[s]) {
            if (!in(item, -1, 1) || rows[row].length() == 15) break;
            rows[row] += charOf(item);
        }
        return rows[row].length() - before;
    }

    public int clear(int row) {
        if (!in(row, 0, 3)) return BAD;
        int had = rows[row].length();
        rows[row] = "";
        return had;
    }

    public int at(int row, int i) {
        if (!in(row, 0, 3) || i < 0) return BAD;
        return i >= rows[row].length() ? NOT : signOf(rows[row].charAt(i));
    }

    public int set(int what, int v) {
        if (what == 0 && in(v, 1, 15)) {
            int was = odds;
            odds = v;
            return was;
        }
        if (what == 1 && in(v, 2, 127)) {
            int was = told(pattern);
            pattern = PlainChains.signsOf(v);
            return was;
        }
        return BAD;
    }

    public int shows(int row, int which) {
        if (!in(row, 0, 3) || !in(which, 0, 6)) return BAD;
        return whole(row) ? number(rows[row], which) : NOT;
    }

    public int type(int b) {
        if (!in(b, 0, 255)) return BAD;
        if (text.length() == 60) return FULL;
        text += (char) b;
        return text.length();
    }

    public int wipe() {
        int had = text.length();
        text = "";
        return had;
    }

    public int fault() {
        if (GRAMMAR.matcher(text).matches()) return NONE;
        for (int i = 0; i < text.length(); i++) {
            Matcher start = GRAMMAR.matcher(text.substring(0, i + 1));
            if (!start.matches() && !start.hitEnd()) return i;
        }
        return text.length();
    }

    public int holds(int row) {
        if (!in(row, 0, 3)) return BAD;
        if (!whole(row) || fault() != NONE) return NOT;
        return hold(rows[row]) ? 1 : 0;
    }

    public int shown(int n, int k) {
        if (!in(n, 0, 15) || !in(k, -1, 15)) return BAD;
        if (fault() != NONE) return NOT;
        int many = 0;
        for (String row : held(fillsOf("?".repeat(n)))) {
            if (k == NONE || number(row, 0) == k) many++;
        }
        return many;
    }

    public int nth(int n, int i) {
        if (!in(n, 0, 15) || i < 0) return BAD;
        if (fault() != NONE) return NOT;
        List<String> shown = held(fillsOf("?".repeat(n)));
        return i < shown.size() ? told(shown.get(i)) : NONE;
    }

    public long share(int n, int what) {
        if (!in(n, 0, 15) || !in(what, 0, 1)) return Check.BAD_LONG;
        if (fault() != NONE) return Check.NOT_LONG;
        return shareOf("?".repeat(n)).part(what);
    }

    public int fills(int row, int what) {
        if (!in(row, 0, 3) || !in(what, 0, 1)) return BAD;
        if (what == 0) return fillsOf(rows[row]).size();
        return fault() != NONE ? NOT : held(fillsOf(rows[row])).size();
    }

    public long filled(int row, int what) {
        if (!in(row, 0, 3) || !in(what, 0, 1)) return Check.BAD_LONG;
        if (fault() != NONE) return Check.NOT_LONG;
        return shareOf(rows[row]).part(what);
    }

    public int sure(int row, int i) {
        if (!in(row, 0, 3) || i < 0) return BAD;
        if (fault() != NONE || i >= rows[row].length()) return NOT;
        boolean hit = false;
        boolean miss = false;
        for (String fill : held(fillsOf(rows[row]))) {
            hit |= fill.charAt(i) == '1';
            miss |= fill.charAt(i) == '0';
        }
        if (!hit && !miss) return NOT;
        return hit && miss ? NONE : hit ? 1 : 0;
    }

    public int dealt(int row, int which, boolean much) {
        if (!in(row, 0, 3) || !in(which, 0, 6)) return BAD;
        if (!whole(row)) return NOT;
        Ratio share = dealtShare(rows[row], which, much);
        return (int) (share.above() * 1000000 / share.below());
    }

    public int strangest(int row) {
        if (!in(row, 0, 3)) return BAD;
        if (!whole(row) || rows[row].isEmpty()) return NOT;
        int best = NONE;
        Ratio least = Ratio.of(2, 1);
        int[] asked = {1, 2, 3, 4, 6};
        for (int which : asked) {
            for (int much = 0; much <= 1; much++) {
                Ratio share = dealtShare(rows[row], which, much == 1);
                if (share.compare(least) < 0) {
                    least = share;
                    best = 2 * which + much;
                }
            }
        }
        return best;
    }

    public long hot(int row, int k, int what) {
        if (!in(row, 0, 3) || !in(k, 1, 4) || !in(what, 0, 1)) return Check.BAD_LONG;
        if (!whole(row)) return Check.NOT_LONG;
        Ratio hot = hotOf(rows[row], k);
        return hot == null ? Check.NOT_LONG : hot.part(what);
    }

    public long already(int row, int k, int what) {
        if (!in(row, 0, 3) || !in(k, 1, 4) || !in(what, 0, 1)) return Check.BAD_LONG;
        if (!whole(row)) return Check.NOT_LONG;
        Ratio sum = Ratio.ZERO;
        int many = 0;
        for (String row2 : dealtOf(rows[row])) {
            Ratio hot = hotOf(row2, k);
            if (hot != null) {
                sum = sum.plus(hot);
                many++;
            }
        }
        return many == 0 ? Check.NOT_LONG : sum.by(Ratio.of(many, 1)).part(what);
    }

    public long waits(int what) {
        return in(what, 0, 1) ? PlainChains.wait(pattern, odds).part(what) : Check.BAD_LONG;
    }

    public long first(int a, int b, int what) {
        if (!in(a, 2, 31) || !in(b, 2, 31) || !in(what, 0, 1)) return Check.BAD_LONG;
        String one = PlainChains.signsOf(a);
        String two = PlainChains.signsOf(b);
        if (one.contains(two) || two.contains(one)) return Check.NOT_LONG;
        return PlainChains.first(one, two, odds).part(what);
    }

    public int agree(int row, int other, int what) {
        if (!in(row, 0, 3) || !in(other, 0, 3) || row == other || !in(what, 0, 1)) return BAD;
        if (!whole(row) || !whole(other) || rows[row].length() != rows[other].length()) return NOT;
        int same = sameSigns(rows[row], rows[other]);
        if (what == 0) return same;
        long asMany = 0;
        List<String> all = dealtOf(rows[other]);
        for (String lot : all) {
            if (sameSigns(rows[row], lot) >= same) asMany++;
        }
        return (int) (asMany * 1000000 / all.size());
    }

    public int twice(int row) {
        if (!in(row, 0, 3)) return BAD;
        if (!whole(row)) return NOT;
        int length = rows[row].length();
        if (length == 0 || length % 2 == 1) return 0;
        String half = rows[row].substring(0, length / 2);
        String rest = rows[row].substring(length / 2);
        if (rest.equals(half)) return 1;
        if (rest.equals(half.replace('0', 'x').replace('1', '0').replace('x', '1'))) return 2;
        return rest.equals(new StringBuilder(half).reverse().toString()) ? 3 : 0;
    }

    public int next(int row, int k, int what) {
        if (!in(row, 0, 3) || !in(k, 0, 4) || !in(what, 0, 3)) return BAD;
        String signs = rows[row];
        if (signs.length() < k) return NOT;
        String end = signs.substring(signs.length() - k);
        if (end.contains("?")) return NOT;
        int hits = 0;
        int all = 0;
        for (int i = k; i < signs.length(); i++) {
            if (signs.charAt(i) != '?' && signs.substring(0, i).endsWith(end)) {
                all++;
                if (signs.charAt(i) == '1') hits++;
            }
        }
        Ratio guess = Ratio.of(hits + 1, all + 2);
        long[] answers = {hits, all, guess.above(), guess.below()};
        return (int) answers[what];
    }

    public int sheet(int s, int type, int n) {
        if (!in(s, 0, 3) || !in(type, 0, 2) || n > 40) return BAD;
        if (n < 0) return finding(5);
        sheets[s] = new int[n];
        types[s] = type;
        return n;
    }

    public int lose(int s) {
        if (!in(s, 0, 3)) return BAD;
        if (sheets[s] == null) return finding(1);
        int had = sheets[s].length;
        sheets[s] = null;
        return had;
    }

    public int put(int s, int type, int i, int v) {
        if (!in(s, 0, 3) || !in(type, 0, 2)) return BAD;
        if (sheets[s] == null) return finding(1);
        if (types[s] != type) return finding(3);
        if (i < 0 || i >= sheets[s].length) return finding(2);
        sheets[s][i] = type == 0 ? (byte) v : type == 1 ? (short) v : v;
        return 1;
    }

    public int get(int s, int type, int i) {
        if (!in(s, 0, 3) || !in(type, 0, 2)) return Integer.MIN_VALUE;
        int found = sheets[s] == null ? 1 : types[s] != type ? 3 : i < 0 || i >= sheets[s].length ? 2 : 0;
        if (found == 0) return sheets[s][i];
        finding = found;
        return Integer.MIN_VALUE;
    }

    public int copy(int s, int i, int t, int j, int n) {
        if (!in(s, 0, 3) || !in(t, 0, 3)) return BAD;
        if (sheets[s] == null || sheets[t] == null) return finding(1);
        if (types[s] != types[t]) return finding(4);
        if (i < 0 || j < 0 || n < 0) return finding(2);
        if ((long) i + n > sheets[s].length || (long) j + n > sheets[t].length) return finding(2);
        int[] were = sheets[s].clone();
        for (int c = 0; c < n; c++) {
            sheets[t][j + c] = were[i + c];
        }
        return 1;
    }

    public int write(int row, int s) {
        if (!in(row, 0, 3) || !in(s, 0, 3)) return BAD;
        if (sheets[s] == null) return finding(1);
        int i = 0;
        while (i < sheets[s].length && i < rows[row].length()) {
            sheets[s][i] = signOf(rows[row].charAt(i));
            i++;
        }
        return i;
    }

    public int count(int what) {
        int bits = 0;
        for (int row = 0; row < 4; row++) {
            if (what == row) return rows[row].length();
            if (whole(row)) bits |= 1 << row;
        }
        int[] rest = {text.length(), odds, told(pattern), bits, finding};
        return in(what, 4, 8) ? rest[what - 4] : BAD;
    }

    public long digest() {
        List<Long> all = new ArrayList<>();
        for (int what = 0; what < 8; what++) all.add((long) count(what));
        for (int row = 0; row < 4; row++) {
            for (char c : rows[row].toCharArray()) all.add((long) signOf(c));
            for (int which = 0; which < 7; which++) all.add((long) shows(row, which));
        }
        all.add((long) fault());
        all.add((long) shown(10, NONE));
        all.add(waits(0));
        all.add(waits(1));
        all.add((long) fills(0, 0));
        long h = 17;
        for (long each : all) h = 31 * h + each;
        return h;
    }

    private static boolean in(int v, int least, int most) {
        return least <= v && v <= most;
    }

    private int finding(int number) {
        finding = number;
        return -10 - number;
    }

    private static char charOf(int v) {
        return v == NONE ? '?' : (char) ('0' + v);
    }

    private static int signOf(char c) {
        return c == '?' ? NONE : c - '0';
    }

    private static int told(String signs) {
        return Integer.parseInt("1" + signs, 2);
    }

    private boolean whole(int row) {
        return !rows[row].contains("?");
    }

    private static List<String> fillsOf(String row) {
        List<String> fills = new ArrayList<>();
        fills.add("");
        for (char c : row.toCharArray()) {
            List<String> longer = new ArrayList<>();
            for (String fill : fills) {
                if (c != '1') longer.add(fill + '0');
                if (c != '0') longer.add(fill + '1');
            }
            fills = longer;
        }
        return fills;
    }

    private List<String> held(List<String> rowsAsked) {
        List<String> held = new ArrayList<>();
        for (String row : rowsAsked) {
            if (hold(row)) held.add(row);
        }
        return held;
    }

    private boolean hold(String row) {
        for (String alternative : text.split("\\|")) {
            boolean all = true;
            for (String test : alternative.split("\\+")) {
                int number = number(row, NUMBERS.indexOf(test.charAt(0)));
                int limit = Integer.parseInt(test.substring(2));
                char relation = test.charAt(1);
                all &= relation == '<' ? number < limit : relation == '>' ? number > limit : number == limit;
            }
            if (all) return true;
        }
        return false;
    }

    private int number(String row, int which) {
        int[] ones = runs(row, '1');
        int[] zeros = runs(row, '0');
        switch (which) {
            case 0: return row.length() - row.replace("1", "").length();
            case 1: return ones[0] + zeros[0];
            case 2: return Math.max(ones[1], zeros[1]);
            case 3: return ones[1];
            case 4: return times(row, "11");
            case 5: return row.indexOf('1') < 0 ? 15 : row.indexOf('1');
            default: return times(row, pattern);
        }
    }

    /** How many runs of a sign there are, and how long the longest is. */
    private static int[] runs(String row, char sign) {
        int many = 0;
        int longest = 0;
        int now = 0;
        for (char c : row.toCharArray()) {
            now = c == sign ? now + 1 : 0;
            if (now == 1) many++;
            longest = Math.max(longest, now);
        }
        return new int[] {many, longest};
    }

    private static int times(String row, String part) {
        int times = 0;
        for (int i = 0; i < row.length(); i++) {
            if (row.startsWith(part, i)) times++;
        }
        return times;
    }

    private Ratio shareOf(String row) {
        Ratio share = Ratio.ZERO;
        for (String fill : held(fillsOf(row))) {
            long ways = 1;
            long all = 1;
            for (int i = 0; i < row.length(); i++) {
                if (row.charAt(i) == '?') {
                    ways *= fill.charAt(i) == '1' ? odds : 16 - odds;
                    all *= 16;
                }
            }
            share = share.plus(Ratio.of(ways, all));
        }
        return share;
    }

    private static List<String> dealtOf(String row) {
        List<String> dealt = new ArrayList<>();
        String hits = row.replace("0", "");
        for (String other : fillsOf("?".repeat(row.length()))) {
            if (other.replace("0", "").equals(hits)) dealt.add(other);
        }
        return dealt;
    }

    private Ratio dealtShare(String row, int which, boolean much) {
        List<String> all = dealtOf(row);
        int own = number(row, which);
        int some = 0;
        for (String lot : all) {
            int number = number(lot, which);
            if (much ? number >= own : number <= own) some++;
        }
        return Ratio.of(some, all.size());
    }

    private static Ratio hotOf(String row, int k) {
        int hits = 0;
        int all = 0;
        for (int i = k; i < row.length(); i++) {
            if (row.substring(i - k, i).equals("1".repeat(k))) {
                all++;
                if (row.charAt(i) == '1') hits++;
            }
        }
        return all == 0 ? null : Ratio.of(hits, all);
    }

    private static int sameSigns(String one, String two) {
        int same = 0;
        for (int i = 0; i < one.length(); i++) {
            if (one.charAt(i) == two.charAt(i)) same++;
        }
        return same;
    }
}
