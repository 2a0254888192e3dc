import java.nio.file.Files;
import java.nio.file.Path;
import java.util.ArrayList;
import java.util.List;
import java.util.TreeMap;
import java.util.TreeSet;

/**
 * Tests of the document's boundary cases, each under the words of the sentence that names the case. What is not as
 * due is printed with its promise and these words (promise 0: what stands ahead of the promises).
 */
final class Edges {
    static final int LEAST = Integer.MIN_VALUE;
    static final int MOST = Integer.MAX_VALUE;
    static final int NO_FINDING = 0;

    private static final Path DOCUMENT = Path.of("../shared/DOC.md");
    private static final int LAST_PROMISE = 34;
    private static final String[] REFUSALS = {"BAD", "NULL", "NOT", "FULL", "INDEX", "CAST", "STORE", "SIZE"};

    private static final TreeMap<Integer, List<String>> WORDS = new TreeMap<>();
    private static String sentence = "";
    private static int tests = 0;

    /** Calls that bring an object to where the boundary is. */
    interface Start {
        void on(RowsOfTwo x);
    }

    /** One call whose answer is looked at. */
    interface Act {
        long on(RowsOfTwo x);
    }

    /** One call by one of its arguments. */
    interface ActBy {
        long on(RowsOfTwo x, int v);
    }

    private Edges() {}

    static void test(int promise, String words, Runnable test) {
        WORDS.computeIfAbsent(promise, p -> new ArrayList<>()).add(words);
        sentence = "promise " + promise + ", '" + words + "': ";
        tests++;
        try {
            test.run();
        } catch (RuntimeException | StackOverflowError thrown) {
            Check.holds(sentence + "threw " + thrown, false);
        }
    }

    static void due(String call, long got, long want) {
        Check.due(sentence + call, got, want);
    }

    static void fraction(String call, long above, long below, long wantAbove, long wantBelow) {
        Check.fraction(sentence + call, above, below, wantAbove, wantBelow);
    }

    static void differs(String call, long got, long not) {
        Check.holds(sentence + call + " answers " + not, got != not);
    }

    static RowsOfTwo after(Start start) {
        RowsOfTwo x = new RowsOfTwo();
        start.on(x);
        return x;
    }

    // ---- refusals

    /** The call is refused so, and nothing but count() 8 is then other than in a like object that was not asked. */
    static void refused(String call, Start start, Act act, long want) {
        boolean isFinding = want <= -11 && want >= -15;
        refused(call, start, act, want, isFinding ? (int) (-10 - want) : NO_FINDING);
    }

    static void refused(String call, Start start, Act act, long want, int finding) {
        refusedOnce(call, start, act, want, finding);
        refusedOnce(call + " behind SIZE", x -> {
            start.on(x);
            x.sheet(0, 0, -1);
        }, act, want, finding);
    }

    private static void refusedOnce(String call, Start start, Act act, long want, int finding) {
        RowsOfTwo asked = after(start);
        RowsOfTwo unasked = after(start);
        due(call, act.on(asked), want);
        int latest = unasked.count(8);
        due(call + ": count(8) behind it", asked.count(8), finding == NO_FINDING ? latest : finding);
        List<Long> seen = allToBeSeen(asked);
        List<Long> wanted = allToBeSeen(unasked);
        Check.holds(sentence + call + " changed nothing: " + seen + " as " + wanted, seen.equals(wanted));
    }

    /** Least and most are not refused as BAD; what is right beyond them, and far beyond, is. */
    static void range(String argument, int least, int most, Start start, ActBy act, long bad) {
        differs(argument + " " + least, act.on(after(start), least), bad);
        differs(argument + " " + most, act.on(after(start), most), bad);
        if (least > LEAST) {
            refused(argument + " " + (least - 1), start, x -> act.on(x, least - 1), bad);
            refused(argument + " " + LEAST, start, x -> act.on(x, LEAST), bad);
        }
        if (most < MOST) {
            refused(argument + " " + (most + 1), start, x -> act.on(x, most + 1), bad);
            refused(argument + " " + MOST, start, x -> act.on(x, MOST), bad);
        }
    }

    // ---- states

    /** A WHOLE ROW, one that is not, a full one, an empty one; SENTENCES; SHEETS of each TYPE and a LOST one. */
    static void rich(RowsOfTwo x) {
        Check.signs(x, 0, "1101");
        Check.signs(x, 1, "1?0");
        Check.signs(x, 2, "101100111000101");
        Check.text(x, "o>1|r=2");
        x.set(0, 5);
        x.set(1, 6);
        items(x, 0, 0, 1, 0, 5);
        items(x, 1, 1, 300, -1);
        items(x, 2, 2, 1 << 20, -1, 0, 7);
        x.get(0, 1, 0);
    }

    /** The same, but that the SENTENCES have a FAULT. */
    static void faulty(RowsOfTwo x) {
        rich(x);
        x.type('+');
    }

    /** The same as rich(), but that all ROWS are WHOLE, of one length, with signs behind four hits. */
    static void whole(RowsOfTwo x) {
        rich(x);
        Check.signs(x, 0, "1111011");
        Check.signs(x, 1, "0111110");
        Check.signs(x, 2, "1011111");
        Check.signs(x, 3, "1111110");
    }

    static void items(RowsOfTwo x, int s, int type, int... values) {
        x.sheet(s, type, values.length);
        for (int i = 0; i < values.length; i++) {
            x.put(s, type, i, values[i]);
        }
    }

    /** All that can be seen of an object, in some 200 calls; it is not fit for more behind that. */
    private static List<Long> allToBeSeen(RowsOfTwo x) {
        List<Long> seen = new ArrayList<>();
        for (int what = 0; what < 8; what++) {
            seen.add((long) x.count(what));
        }
        for (int row = 0; row < 4; row++) {
            for (int i = 0; i < x.count(row); i++) {
                seen.add((long) x.at(row, i));
            }
            seen.add((long) x.shows(row, 6));
            seen.add((long) x.holds(row));
        }
        seen.add(x.share(4, 0));
        seen.add(x.digest());
        for (int s = 0; s < 4; s++) {
            itemsToBeSeen(x, s, seen);
        }
        for (char b : "1+p".toCharArray()) {
            seen.add((long) x.type(b));
            seen.add((long) x.fault());
            seen.add((long) x.shown(6, RowsOfTwo.NONE));
        }
        return seen;
    }

    private static void itemsToBeSeen(RowsOfTwo x, int s, List<Long> seen) {
        for (int type = 0; type < 3; type++) {
            int i = 0;
            long item;
            do {
                item = x.get(s, type, i);
                seen.add(item);
                i++;
            } while (item != LEAST);
        }
        seen.add((long) x.lose(s));
    }

    // ---- the document

    /** Whether all words stand where they are said to, and each refusal of each promise has a test. */
    static void holdAgainstDocument() throws Exception {
        System.out.println(tests + " sentences with tests of their own");
        for (int promise = 1; promise <= LAST_PROMISE; promise++) {
            Check.holds("promise " + promise + " has tests of its edges", WORDS.containsKey(promise));
        }
        if (!Files.exists(DOCUMENT)) {
            System.out.println("no " + DOCUMENT + " to hold the words against");
            return;
        }
        String[] parts = Files.readString(DOCUMENT).replaceAll("\\s+", " ").split("## Promise ");
        Check.holds("the document has " + LAST_PROMISE + " promises", parts.length == LAST_PROMISE + 1);
        for (int promise = 0; promise < parts.length; promise++) {
            List<String> words = WORDS.getOrDefault(promise, List.of());
            for (String each : words) {
                Check.holds("promise " + promise + " says '" + each + "'", parts[promise].contains(each));
            }
            if (promise > 0) {
                refusalsHaveTests(promise, parts[promise], words);
            }
        }
    }

    private static void refusalsHaveTests(int promise, String part, List<String> words) {
        TreeSet<String> tested = new TreeSet<>();
        for (String each : words) {
            tested.addAll(List.of(each.split("\\W+")));
        }
        TreeSet<String> told = new TreeSet<>(List.of(part.split("\\W+")));
        for (String refusal : REFUSALS) {
            Check.holds("promise " + promise + " has a test of " + refusal,
                    !told.contains(refusal) || tested.contains(refusal));
        }
    }
}
