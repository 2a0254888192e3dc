/**
 * Short rows of hits and misses, and what they show by chance. The document's words in capitals
 * (ROW, SENTENCES, DEALT and so on) mean here what they mean there.
 *
 * <p>Signs are kept as bits, the first sign highest, so that rows of one length stand in the
 * document's order when their bits are counted up. Nothing is made after the constructor.
 */
public final class RowsOfTwo {
    public static final int NONE = -1, BAD = -2, NOT = -3, FULL = -4;

    private static final int ROWS = 4;
    private static final int SHEETS = 4;
    private static final int MOST_SIGNS = 15;
    private static final int NUMBERS = 7;
    private static final int MOST_BYTES = 60;
    private static final int MOST_ITEMS = 40;
    private static final int TYPES = 3;
    private static final int SIXTEENTHS = 16;
    private static final int MOST_BEHIND = 4;
    private static final int MOST_TOLD = 127;
    private static final int MOST_FIRST_TOLD = 31;
    private static final int MILLION = 1000000;

    private static final int NULL = 1, INDEX = 2, CAST = 3, STORE = 4, SIZE = 5;

    private final Row[] rows;
    private final Sheet[] sheets;
    private final Sentences sentences;
    private final Shown shownRows;
    private final Fills heldFills;
    private int odds;
    private int pattern;
    private int finding;

    public RowsOfTwo() {
        rows = new Row[ROWS];
        for (int row = 0; row < ROWS; row++) {
            rows[row] = new Row();
        }
        sheets = new Sheet[SHEETS];
        for (int s = 0; s < SHEETS; s++) {
            sheets[s] = new Sheet();
        }
        sentences = new Sentences();
        shownRows = new Shown();
        heldFills = new Fills();
        odds = 8;
        pattern = 3;
        finding = 0;
    }

    // ---- rows

    public int sign(int row, int v) {
        if (!isRow(row) || !Row.maySee(v)) {
            return BAD;
        }
        Row to = rows[row];
        if (to.isFull()) {
            return FULL;
        }
        to.append(v);
        return to.length;
    }

    public int read(int s, int row) {
        if (!isSheet(s) || !isRow(row)) {
            return BAD;
        }
        Sheet from = sheets[s];
        if (from.lost) {
            return found(NULL);
        }
        Row to = rows[row];
        int came = 0;
        while (came < from.size && !to.isFull() && Row.maySee(from.items[came])) {
            to.append(from.items[came]);
            came++;
        }
        return came;
    }

    public int clear(int row) {
        if (!isRow(row)) {
            return BAD;
        }
        int had = rows[row].length;
        rows[row].empty();
        return had;
    }

    public int at(int row, int i) {
        if (!isRow(row) || i < 0) {
            return BAD;
        }
        return i < rows[row].length ? rows[row].signAt(i) : NOT;
    }

    public int set(int what, int v) {
        if (what == 0 && v >= 1 && v < SIXTEENTHS) {
            int was = odds;
            odds = v;
            return was;
        }
        if (what == 1 && v >= 2 && v <= MOST_TOLD) {
            int was = pattern;
            pattern = v;
            shownRows.forget();
            return was;
        }
        return BAD;
    }

    public int shows(int row, int which) {
        if (!isRow(row) || !isNumber(which)) {
            return BAD;
        }
        return rows[row].isWhole() ? numberOf(rows[row], which) : NOT;
    }

    // ---- sentences

    public int type(int b) {
        if (b < 0 || b > 255) {
            return BAD;
        }
        if (sentences.length >= MOST_BYTES) {
            return FULL;
        }
        sentences.append(b);
        shownRows.forget();
        return sentences.length;
    }

    public int wipe() {
        int had = sentences.length;
        sentences.empty();
        shownRows.forget();
        return had;
    }

    public int fault() {
        return sentences.faultPlace();
    }

    public int holds(int row) {
        if (!isRow(row)) {
            return BAD;
        }
        Row held = rows[row];
        if (!held.isWhole() || sentences.isFaulty()) {
            return NOT;
        }
        return sentences.hold(held.length, held.hits, pattern) ? 1 : 0;
    }

    public int shown(int n, int k) {
        if (!isLength(n) || k < NONE || k > MOST_SIGNS) {
            return BAD;
        }
        if (sentences.isFaulty()) {
            return NOT;
        }
        shownRows.learn(n, sentences, pattern);
        return k == NONE ? Tallies.sum(shownRows.tallies[n]) : shownRows.tallies[n][k];
    }

    public int nth(int n, int i) {
        if (!isLength(n) || i < 0) {
            return BAD;
        }
        if (sentences.isFaulty()) {
            return NOT;
        }
        int ahead = 0;
        for (int hits = 0; hits < (1 << n); hits++) {
            if (sentences.hold(n, hits, pattern)) {
                if (ahead == i) {
                    return (1 << n) | hits;
                }
                ahead++;
            }
        }
        return NONE;
    }

    public long share(int n, int what) {
        if (!isLength(n) || !isPart(what)) {
            return refusal(BAD);
        }
        if (sentences.isFaulty()) {
            return refusal(NOT);
        }
        shownRows.learn(n, sentences, pattern);
        return Tallies.sharePart(shownRows.tallies[n], n, odds, what);
    }

    public int fills(int row, int what) {
        if (!isRow(row) || !isPart(what)) {
            return BAD;
        }
        if (what == 0) {
            return 1 << Integer.bitCount(rows[row].unseen);
        }
        if (sentences.isFaulty()) {
            return NOT;
        }
        heldFills.learn(rows[row], sentences, pattern);
        return Tallies.sum(heldFills.tally);
    }

    public long filled(int row, int what) {
        if (!isRow(row) || !isPart(what)) {
            return refusal(BAD);
        }
        if (sentences.isFaulty()) {
            return refusal(NOT);
        }
        heldFills.learn(rows[row], sentences, pattern);
        return Tallies.sharePart(heldFills.tally, Integer.bitCount(rows[row].unseen), odds, what);
    }

    public int sure(int row, int i) {
        if (!isRow(row) || i < 0) {
            return BAD;
        }
        Row asked = rows[row];
        if (sentences.isFaulty() || i >= asked.length) {
            return NOT;
        }
        heldFills.learn(asked, sentences, pattern);
        if (Tallies.sum(heldFills.tally) == 0) {
            return NOT;
        }
        int bit = 1 << (asked.length - 1 - i);
        if ((heldFills.alwaysHit & bit) != 0) {
            return 1;
        }
        return (heldFills.everHit & bit) == 0 ? 0 : NONE;
    }

    // ---- dealt rows

    public int dealt(int row, int which, boolean much) {
        if (!isRow(row) || !isNumber(which)) {
            return BAD;
        }
        Row asked = rows[row];
        if (!asked.isWhole()) {
            return NOT;
        }
        return millionths(dealtAsFar(asked, which, much), Lots.howMany(asked));
    }

    public int strangest(int row) {
        if (!isRow(row)) {
            return BAD;
        }
        Row asked = rows[row];
        if (!asked.isWhole() || asked.length == 0) {
            return NOT;
        }
        int strangest = NONE;
        int least = 0;
        for (int told = 0; told < 2 * NUMBERS; told++) {
            int which = told / 2;
            // o is the same in all DEALT rows, and the document leaves f out.
            if (which == Numbers.HITS || which == Numbers.FIRST_HIT) {
                continue;
            }
            int far = dealtAsFar(asked, which, told % 2 == 1);
            if (strangest == NONE || far < least) {
                strangest = told;
                least = far;
            }
        }
        return strangest;
    }

    public long hot(int row, int k, int what) {
        if (!isRow(row) || !isBehind(k) || !isPart(what)) {
            return refusal(BAD);
        }
        Row asked = rows[row];
        if (!asked.isWhole()) {
            return refusal(NOT);
        }
        int behind = Lots.behindHits(asked.hits, k);
        if (behind == 0) {
            return refusal(NOT);
        }
        int hitsBehind = Integer.bitCount(behind & asked.hits);
        return Fractions.part(hitsBehind, Integer.bitCount(behind), what);
    }

    public long already(int row, int k, int what) {
        if (!isRow(row) || !isBehind(k) || !isPart(what)) {
            return refusal(BAD);
        }
        Row asked = rows[row];
        if (!asked.isWhole()) {
            return refusal(NOT);
        }
        int lots = Lots.howMany(asked);
        int lot = Lots.lowest(asked);
        int having = 0;
        long sum = 0;
        for (int c = 0; c < lots; c++) {
            int behind = Lots.behindHits(lot, k);
            if (behind != 0) {
                having++;
                sum += Lots.heat(lot, behind);
            }
            lot = Lots.after(lot);
        }
        return having == 0 ? refusal(NOT) : Fractions.part(sum, having * Lots.HEAT_UNIT, what);
    }

    // ---- patterns

    public long waits(int what) {
        if (!isPart(what)) {
            return refusal(BAD);
        }
        return Fractions.part(Patterns.lead(pattern, pattern, odds), Patterns.leadUnit(odds), what);
    }

    public long first(int a, int b, int what) {
        if (!isFirstTold(a) || !isFirstTold(b) || !isPart(what)) {
            return refusal(BAD);
        }
        if (Patterns.standsIn(a, b) || Patterns.standsIn(b, a)) {
            return refusal(NOT);
        }
        // Conway: what b gains from its own start beyond a's, against the same for a.
        long forA = Patterns.lead(b, b, odds) - Patterns.lead(b, a, odds);
        long forB = Patterns.lead(a, a, odds) - Patterns.lead(a, b, odds);
        return Fractions.part(forA, forA + forB, what);
    }

    // ---- rows held together

    public int agree(int row, int other, int what) {
        if (!isRow(row) || !isRow(other) || row == other || !isPart(what)) {
            return BAD;
        }
        Row one = rows[row];
        Row two = rows[other];
        if (!one.isWhole() || !two.isWhole() || one.length != two.length) {
            return NOT;
        }
        int unlike = Integer.bitCount(one.hits ^ two.hits);
        if (what == 0) {
            return one.length - unlike;
        }
        int lots = Lots.howMany(two);
        int lot = Lots.lowest(two);
        int asMany = 0;
        for (int c = 0; c < lots; c++) {
            if (Integer.bitCount(one.hits ^ lot) <= unlike) {
                asMany++;
            }
            lot = Lots.after(lot);
        }
        return millionths(asMany, lots);
    }

    public int twice(int row) {
        if (!isRow(row)) {
            return BAD;
        }
        Row asked = rows[row];
        if (!asked.isWhole()) {
            return NOT;
        }
        if (asked.length == 0 || asked.length % 2 != 0) {
            return 0;
        }
        int half = asked.length / 2;
        int all = (1 << half) - 1;
        int ahead = asked.hits >> half;
        int behind = asked.hits & all;
        if (behind == ahead) {
            return 1;
        }
        if (behind == (ahead ^ all)) {
            return 2;
        }
        return behind == backwards(ahead, half) ? 3 : 0;
    }

    public int next(int row, int k, int what) {
        if (!isRow(row) || k < 0 || k > MOST_BEHIND || what < 0 || what > 3) {
            return BAD;
        }
        Row asked = rows[row];
        int last = (1 << k) - 1;
        if (asked.length < k || (asked.unseen & last) != 0) {
            return NOT;
        }
        int hits = 0;
        int all = 0;
        for (int place = k; place < asked.length; place++) {
            if (asked.isBehindItsEnd(place, k)) {
                all++;
                hits += asked.signAt(place);
            }
        }
        if (what < 2) {
            return what == 0 ? hits : all;
        }
        return (int) Fractions.part(hits + 1, all + 2, what - 2);
    }

    // ---- sheets

    public int sheet(int s, int type, int n) {
        if (!isSheet(s) || !isType(type) || n > MOST_ITEMS) {
            return BAD;
        }
        if (n < 0) {
            return found(SIZE);
        }
        sheets[s].renew(type, n);
        return n;
    }

    public int lose(int s) {
        if (!isSheet(s)) {
            return BAD;
        }
        if (sheets[s].lost) {
            return found(NULL);
        }
        sheets[s].lost = true;
        return sheets[s].size;
    }

    public int put(int s, int type, int i, int v) {
        int refused = refusesItem(s, type, i);
        if (refused != 0) {
            return refused;
        }
        sheets[s].store(i, v);
        return 1;
    }

    public int get(int s, int type, int i) {
        return refusesItem(s, type, i) != 0 ? Integer.MIN_VALUE : sheets[s].items[i];
    }

    public int copy(int s, int i, int t, int j, int n) {
        if (!isSheet(s) || !isSheet(t)) {
            return BAD;
        }
        Sheet from = sheets[s];
        Sheet to = sheets[t];
        if (from.lost || to.lost) {
            return found(NULL);
        }
        if (from.kind != to.kind) {
            return found(STORE);
        }
        if (!from.hasSpan(i, n) || !to.hasSpan(j, n)) {
            return found(INDEX);
        }
        System.arraycopy(from.items, i, to.items, j, n);
        return 1;
    }

    public int write(int row, int s) {
        if (!isRow(row) || !isSheet(s)) {
            return BAD;
        }
        Sheet to = sheets[s];
        if (to.lost) {
            return found(NULL);
        }
        int many = Math.min(to.size, rows[row].length);
        for (int i = 0; i < many; i++) {
            to.store(i, rows[row].signAt(i));
        }
        return many;
    }

    public int count(int what) {
        if (isRow(what)) {
            return rows[what].length;
        }
        switch (what) {
            case 4:
                return sentences.length;
            case 5:
                return odds;
            case 6:
                return pattern;
            case 7:
                return wholeRows();
            case 8:
                return finding;
            default:
                return BAD;
        }
    }

    public long digest() {
        long h = 17;
        for (int what = 0; what <= 7; what++) {
            h = 31 * h + count(what);
        }
        for (int row = 0; row < ROWS; row++) {
            for (int i = 0; i < rows[row].length; i++) {
                h = 31 * h + rows[row].signAt(i);
            }
            for (int which = 0; which < NUMBERS; which++) {
                h = 31 * h + shows(row, which);
            }
        }
        h = 31 * h + fault();
        h = 31 * h + shown(10, NONE);
        h = 31 * h + waits(0);
        h = 31 * h + waits(1);
        return 31 * h + fills(0, 0);
    }

    // ---- what may be asked

    private static boolean isRow(int row) {
        return row >= 0 && row < ROWS;
    }

    private static boolean isSheet(int s) {
        return s >= 0 && s < SHEETS;
    }

    private static boolean isType(int type) {
        return type >= 0 && type < TYPES;
    }

    private static boolean isNumber(int which) {
        return which >= 0 && which < NUMBERS;
    }

    private static boolean isLength(int n) {
        return n >= 0 && n <= MOST_SIGNS;
    }

    private static boolean isPart(int what) {
        return what == 0 || what == 1;
    }

    private static boolean isBehind(int k) {
        return k >= 1 && k <= MOST_BEHIND;
    }

    private static boolean isFirstTold(int told) {
        return told >= 2 && told <= MOST_FIRST_TOLD;
    }

    private static long refusal(int answer) {
        return Long.MIN_VALUE - answer;
    }

    private int found(int number) {
        finding = number;
        return -10 - number;
    }

    private int refusesItem(int s, int type, int i) {
        if (!isSheet(s) || !isType(type)) {
            return BAD;
        }
        if (sheets[s].lost) {
            return found(NULL);
        }
        if (sheets[s].kind != type) {
            return found(CAST);
        }
        return i >= 0 && i < sheets[s].size ? 0 : found(INDEX);
    }

    // ---- what the calls share

    private int numberOf(Row row, int which) {
        return Numbers.measure(which, row.length, row.hits, pattern);
    }

    private int dealtAsFar(Row row, int which, boolean much) {
        int own = numberOf(row, which);
        int lots = Lots.howMany(row);
        int lot = Lots.lowest(row);
        int asFar = 0;
        for (int c = 0; c < lots; c++) {
            int number = Numbers.measure(which, row.length, lot, pattern);
            if (much ? number >= own : number <= own) {
                asFar++;
            }
            lot = Lots.after(lot);
        }
        return asFar;
    }

    private static int millionths(int some, int all) {
        return all <= 0 ? 0 : (int) ((long) some * MILLION / all);
    }

    private static int backwards(int signs, int length) {
        int turned = 0;
        for (int i = 0; i < length; i++) {
            turned = (turned << 1) | ((signs >> i) & 1);
        }
        return turned;
    }

    private int wholeRows() {
        int bits = 0;
        for (int row = 0; row < ROWS; row++) {
            if (rows[row].isWhole()) {
                bits |= 1 << row;
            }
        }
        return bits;
    }

    /** A ROW: the last sign is bit 0 of both hits and unseen. */
    private static final class Row {
        int length;
        int hits;
        int unseen;

        static boolean maySee(int v) {
            return v == 1 || v == 0 || v == NONE;
        }

        boolean isFull() {
            return length >= MOST_SIGNS;
        }

        boolean isWhole() {
            return unseen == 0;
        }

        void empty() {
            length = 0;
            hits = 0;
            unseen = 0;
        }

        void append(int v) {
            hits = (hits << 1) | (v == 1 ? 1 : 0);
            unseen = (unseen << 1) | (v == NONE ? 1 : 0);
            length++;
        }

        int signAt(int i) {
            int shift = length - 1 - i;
            if (((unseen >> shift) & 1) == 1) {
                return NONE;
            }
            return (hits >> shift) & 1;
        }

        /** Whether a place was seen, with the same k signs ahead of it as the end has. */
        boolean isBehindItsEnd(int place, int k) {
            int shift = length - 1 - place;
            int last = (1 << k) - 1;
            boolean seen = ((unseen >> shift) & ((1 << (k + 1)) - 1)) == 0;
            return seen && ((hits >> (shift + 1)) & last) == (hits & last);
        }
    }

    /** A SHEET: one row of ints serves all TYPES, since store() cuts each item down to its own. */
    private static final class Sheet {
        final int[] items;
        boolean lost;
        int kind;
        int size;

        Sheet() {
            items = new int[MOST_ITEMS];
            lost = true;
        }

        void renew(int newKind, int newSize) {
            for (int i = 0; i < MOST_ITEMS; i++) {
                items[i] = 0;
            }
            lost = false;
            kind = newKind;
            size = newSize;
        }

        void store(int i, int v) {
            switch (kind) {
                case 0:
                    items[i] = (byte) v;
                    break;
                case 1:
                    items[i] = (short) v;
                    break;
                default:
                    items[i] = v;
                    break;
            }
        }

        /** Asks by a difference, because a sum of two large ints would wrap. */
        boolean hasSpan(int from, int many) {
            return from >= 0 && many >= 0 && many <= size - from;
        }
    }

    /** The numbers that a WHOLE row shows. */
    private static final class Numbers {
        static final int HITS = 0;
        static final int FIRST_HIT = 5;

        static int measure(int which, int n, int hits, int pattern) {
            switch (which) {
                case HITS:
                    return Integer.bitCount(hits);
                case 1:
                    return runs(n, hits);
                case 2:
                    return Math.max(longestRun(hits), longestRun(~hits & ((1 << n) - 1)));
                case 3:
                    return longestRun(hits);
                case 4:
                    return Integer.bitCount(hits & (hits >> 1));
                case FIRST_HIT:
                    return firstHit(n, hits);
                default:
                    return Patterns.timesIn(pattern, n, hits);
            }
        }

        private static int runs(int n, int hits) {
            if (n == 0) {
                return 0;
            }
            int turns = (hits ^ (hits >> 1)) & ((1 << (n - 1)) - 1);
            return 1 + Integer.bitCount(turns);
        }

        /** Each step takes one sign off every run, so the steps count the longest. */
        private static int longestRun(int signs) {
            int left = signs;
            int steps = 0;
            while (left != 0 && steps < MOST_SIGNS) {
                left &= left >> 1;
                steps++;
            }
            return steps;
        }

        private static int firstHit(int n, int hits) {
            for (int i = 0; i < n; i++) {
                if (((hits >> (n - 1 - i)) & 1) == 1) {
                    return i;
                }
            }
            return MOST_SIGNS;
        }
    }

    /** SENTENCES, taken apart byte by byte as they come; the bytes themselves are never asked for. */
    private static final class Sentences {
        // 60 bytes have room for 15 TESTS, and for a + or | behind the last.
        private static final int MOST_TESTS = 16;
        private static final int LETTER = 0, RELATION = 1, FIGURE = 2, SECOND_FIGURE = 3, JOINT = 4;
        private static final String LETTERS = "orlhbfp";

        final int[] letters;
        final int[] relations;
        final int[] limits;
        final boolean[] opensAlternative;
        final int[] measured;
        int length;
        int tests;
        int due;
        int stuckAt;

        Sentences() {
            letters = new int[MOST_TESTS];
            relations = new int[MOST_TESTS];
            limits = new int[MOST_TESTS];
            opensAlternative = new boolean[MOST_TESTS];
            measured = new int[NUMBERS];
            stuckAt = NONE;
        }

        void empty() {
            length = 0;
            tests = 0;
            due = LETTER;
            stuckAt = NONE;
        }

        void append(int b) {
            if (stuckAt == NONE && !goesOn(b)) {
                stuckAt = length;
            }
            length++;
        }

        int faultPlace() {
            if (stuckAt != NONE) {
                return stuckAt;
            }
            return due == SECOND_FIGURE || due == JOINT ? NONE : length;
        }

        boolean isFaulty() {
            return faultPlace() != NONE;
        }

        private boolean goesOn(int b) {
            switch (due) {
                case LETTER:
                    return takesLetter(b);
                case RELATION:
                    return takesRelation(b);
                case FIGURE:
                    return takesFigure(b);
                case SECOND_FIGURE:
                    return takesSecondFigure(b) || takesJoint(b);
                default:
                    return takesJoint(b);
            }
        }

        private boolean takesLetter(int b) {
            int which = LETTERS.indexOf((char) b);
            if (which < 0 || tests >= MOST_TESTS) {
                return false;
            }
            letters[tests] = which;
            due = RELATION;
            return true;
        }

        private boolean takesRelation(int b) {
            if (b != '<' && b != '=' && b != '>' || tests >= MOST_TESTS) {
                return false;
            }
            relations[tests] = b;
            due = FIGURE;
            return true;
        }

        private boolean takesFigure(int b) {
            if (b < '0' || b > '9' || tests >= MOST_TESTS) {
                return false;
            }
            limits[tests] = b - '0';
            tests++;
            due = SECOND_FIGURE;
            return true;
        }

        private boolean takesSecondFigure(int b) {
            if (b < '0' || b > '9' || tests < 1) {
                return false;
            }
            limits[tests - 1] = 10 * limits[tests - 1] + b - '0';
            due = JOINT;
            return true;
        }

        private boolean takesJoint(int b) {
            if (b != '+' && b != '|' || tests >= MOST_TESTS) {
                return false;
            }
            opensAlternative[tests] = b == '|';
            due = LETTER;
            return true;
        }

        /** Whether a WHOLE row HOLDS them; asked only where there is no FAULT. */
        boolean hold(int n, int hits, int pattern) {
            boolean allDone = true;
            int known = 0;
            for (int test = 0; test < tests; test++) {
                if (opensAlternative[test]) {
                    if (allDone) {
                        return true;
                    }
                    allDone = true;
                }
                if (allDone) {
                    int which = letters[test];
                    // Asked of every row there is, so no number is measured twice, nor in vain.
                    if (((known >> which) & 1) == 0) {
                        measured[which] = Numbers.measure(which, n, hits, pattern);
                        known |= 1 << which;
                    }
                    allDone = isDone(test);
                }
            }
            return allDone;
        }

        private boolean isDone(int test) {
            int number = measured[letters[test]];
            switch (relations[test]) {
                case '<':
                    return number < limits[test];
                case '>':
                    return number > limits[test];
                default:
                    return number == limits[test];
            }
        }
    }

    /** How many rows there are of a kind, told apart by how many hits they have. */
    private static final class Tallies {
        static int sum(int[] tally) {
            int sum = 0;
            for (int many : tally) {
                sum += many;
            }
            return sum;
        }

        /** By what share n signs by lots are among the tallied ones: above, below. */
        static long sharePart(int[] tally, int n, int odds, int what) {
            long above = 0;
            for (int k = 0; k <= n && k < tally.length; k++) {
                long each = Fractions.power(odds, k) * Fractions.power(SIXTEENTHS - odds, n - k);
                above += tally[k] * each;
            }
            return Fractions.part(above, Fractions.power(SIXTEENTHS, n), what);
        }
    }

    /** The tallies of SHOWN rows by their length, kept until SENTENCES or THE PATTERN change. */
    private static final class Shown {
        final int[][] tallies;
        final boolean[] known;

        Shown() {
            tallies = new int[MOST_SIGNS + 1][MOST_SIGNS + 1];
            known = new boolean[MOST_SIGNS + 1];
        }

        void forget() {
            for (int n = 0; n <= MOST_SIGNS; n++) {
                known[n] = false;
            }
        }

        void learn(int n, Sentences sentences, int pattern) {
            if (known[n]) {
                return;
            }
            int[] tally = tallies[n];
            for (int k = 0; k <= MOST_SIGNS; k++) {
                tally[k] = 0;
            }
            for (int hits = 0; hits < (1 << n); hits++) {
                if (sentences.hold(n, hits, pattern)) {
                    tally[Integer.bitCount(hits)]++;
                }
            }
            known[n] = true;
        }
    }

    /** The FILLS of a ROW that HOLD, tallied by the hits among signs that were not seen. */
    private static final class Fills {
        final int[] tally;
        int alwaysHit;
        int everHit;

        Fills() {
            tally = new int[MOST_SIGNS + 1];
        }

        void learn(Row row, Sentences sentences, int pattern) {
            for (int k = 0; k <= MOST_SIGNS; k++) {
                tally[k] = 0;
            }
            alwaysHit = -1;
            everHit = 0;
            int many = 1 << Integer.bitCount(row.unseen);
            int fill = 0;
            for (int c = 0; c < many; c++) {
                int whole = row.hits | fill;
                if (sentences.hold(row.length, whole, pattern)) {
                    tally[Integer.bitCount(fill)]++;
                    alwaysHit &= whole;
                    everHit |= whole;
                }
                // The next larger number that has bits only where signs were not seen.
                fill = (fill - row.unseen) & row.unseen;
            }
        }
    }

    /** The DEALT rows of a ROW, from the lowest up. */
    private static final class Lots {
        /** A multiple of 1 to 14, so that every HOT is a whole number of these parts. */
        static final long HEAT_UNIT = 360360;

        static int howMany(Row row) {
            int hits = Integer.bitCount(row.hits);
            int ways = 1;
            for (int i = 1; i <= hits; i++) {
                ways = ways * (row.length - hits + i) / i;
            }
            return ways;
        }

        static int lowest(Row row) {
            return (1 << Integer.bitCount(row.hits)) - 1;
        }

        /** The next larger number with as many bits. */
        static int after(int lot) {
            int lowestBit = lot & -lot;
            if (lowestBit == 0) {
                return lot;
            }
            int carried = lot + lowestBit;
            return carried | (((lot ^ carried) / lowestBit) >> 2);
        }

        /** The places right behind k hits. */
        static int behindHits(int hits, int k) {
            int behind = hits >> 1;
            for (int ahead = 2; ahead <= k; ahead++) {
                behind &= hits >> ahead;
            }
            return behind;
        }

        /** HOT of a row that has places behind hits, in parts of HEAT_UNIT. */
        static long heat(int hits, int behind) {
            int all = Integer.bitCount(behind);
            return all == 0 ? 0 : Integer.bitCount(behind & hits) * (HEAT_UNIT / all);
        }
    }

    /** Patterns as they are told: a sign 1 ahead of their signs, read as twos. */
    private static final class Patterns {
        private static final int MOST_LENGTH = 6;

        static int lengthOf(int told) {
            int length = 0;
            while (length < MOST_LENGTH && (told >> (length + 1)) != 0) {
                length++;
            }
            return length;
        }

        static int timesIn(int told, int n, int hits) {
            int length = lengthOf(told);
            if (length > n) {
                return 0;
            }
            int ends = (1 << (n - length + 1)) - 1;
            for (int i = 0; i < length; i++) {
                int signs = hits >> i;
                ends &= ((told >> i) & 1) == 1 ? signs : ~signs;
            }
            return Integer.bitCount(ends);
        }

        static boolean standsIn(int told, int other) {
            int n = lengthOf(other);
            return timesIn(told, n, other & ((1 << n) - 1)) > 0;
        }

        /**
         * What a bet on y has won when x has come: of each end of x that is a start of y, one by the
         * chance of that start; as a number of leadUnit() parts.
         */
        static long lead(int x, int y, int odds) {
            int xLength = lengthOf(x);
            int yLength = lengthOf(y);
            long sum = 0;
            for (int j = 1; j <= xLength && j <= yLength; j++) {
                int end = (1 << j) | (x & ((1 << j) - 1));
                int start = y >> (yLength - j);
                if (end == start) {
                    int hits = Integer.bitCount(start) - 1;
                    int misses = j - hits;
                    long rest = chanceParts(odds, MOST_LENGTH - hits, MOST_LENGTH - misses);
                    sum += Fractions.power(SIXTEENTHS, j) * rest;
                }
            }
            return sum;
        }

        static long leadUnit(int odds) {
            return chanceParts(odds, MOST_LENGTH, MOST_LENGTH);
        }

        private static long chanceParts(int odds, int hits, int misses) {
            return Fractions.power(odds, hits) * Fractions.power(SIXTEENTHS - odds, misses);
        }
    }

    /** FRACTIONS in lowest terms. */
    private static final class Fractions {
        // Euclid's steps on two longs are fewer.
        private static final int MOST_STEPS = 200;

        static long part(long above, long below, int what) {
            long divisor = commonDivisor(above, below);
            if (divisor == 0) {
                return 0;
            }
            return (what == 0 ? above : below) / divisor;
        }

        static long power(long base, int times) {
            long power = 1;
            for (int i = 0; i < times; i++) {
                power *= base;
            }
            return power;
        }

        private static long commonDivisor(long one, long other) {
            long a = one;
            long b = other;
            for (int step = 0; b != 0 && step < MOST_STEPS; step++) {
                long rest = a % b;
                a = b;
                b = rest;
            }
            return a;
        }
    }
}
